def wvX11_drop : List Cond := .code yX11_drop cX11_drop 4 (some .int) :: (([.methodLink RX11 103 yX11_entryAt, .instanceMethod yX11_entryAt, .selects RX11 yX11_entryAt yX11_entryAt, .initialized RX11, .fieldLink RX11 111 "Witnessworks$Entry" "itemCount" "I", .methodLink RX11 132 yX11_testPlace, .static yX11_testPlace, .methodLink RX11 99 yX11_remember, .instanceMethod yX11_remember, .selects RX11 yX11_remember yX11_remember, .methodLink RX11 140 yX3_removeItem, .instanceMethod yX3_removeItem, .selects RX3 yX3_removeItem yX3_removeItem, .initialized RX3, .fieldLink RX11 128 "Witnessworks$Entry" "isSolved" "Z"] : List Cond) ++ ((wsX30) ++ (wvX11_entryAt ++ (wvX11_testPlace ++ (wvX11_remember ++ (wvX3_removeItem))))))
theorem huX11_drop_3 : ∀ w ∈ u_ws RX3 TX3 17, w ∈ wvX11_drop := fun w h => List.mem_cons_of_mem _ (List.mem_append_right _ (List.mem_append_left _ h))
theorem hbX11_drop_X11_entryAt : ∀ w ∈ wvX11_entryAt, w ∈ wvX11_drop := fun w h => List.mem_cons_of_mem _ (List.mem_append_right _ (List.mem_append_right _ (List.mem_append_left _ h)))
theorem hbX11_drop_X11_testPlace : ∀ w ∈ wvX11_testPlace, w ∈ wvX11_drop := fun w h => List.mem_cons_of_mem _ (List.mem_append_right _ (List.mem_append_right _ (List.mem_append_right _ (List.mem_append_left _ h))))
theorem hbX11_drop_X11_remember : ∀ w ∈ wvX11_remember, w ∈ wvX11_drop := fun w h => List.mem_cons_of_mem _ (List.mem_append_right _ (List.mem_append_right _ (List.mem_append_right _ (List.mem_append_right _ (List.mem_append_left _ h)))))
theorem hbX11_drop_X3_removeItem : ∀ w ∈ wvX3_removeItem, w ∈ wvX11_drop := fun w h => List.mem_cons_of_mem _ (List.mem_append_right _ (List.mem_append_right _ (List.mem_append_right _ (List.mem_append_right _ (List.mem_append_right _ h)))))
theorem gdX11_drop : ∀ w ∈ wvX11_drop, wkGd w := wkGdC rfl (wkGdA (wkGdL (by decide +kernel)) (wkGdA gdX3 (wkGdA gdX11_entryAt (wkGdA gdX11_testPlace (wkGdA gdX11_remember gdX3_removeItem)))))
def rX11_drop (F : Nat) (k n : Nat) (l0A : Nat) (l1I : Int32) (l2I : Int32) (S : wPS) (Φ : (Int32 → wPS → Prop)) (Ψ : String → wPS → Prop) : Prop :=
  ∃ k4 n5 : Nat, 0 + k4 ≤ k ∧ 0 + n5 ≤ n ∧ rX11_entryAt F k4 n5 l0A l1I S (fun v1 S2 => ∃ k9 n10 : Nat, (0 + k4) + k9 ≤ k ∧ (0 + n5) + n10 ≤ n ∧ rX11_testPlace F k9 n10 l2I (gEntry_itemCount S2 v1) S2 (fun v6 S7 => rX11_remember F l0A (100 : Int32) l1I S7 fun v11 S12 => rX3_removeItem F v1 l2I S12 fun v16 S17 => wkLt (wu_Entry_isSolved S17 v1 (0 : Int32)) fun S21 => Φ (gEntry_itemCount S21 v1) S21) Ψ) Ψ
set_option maxHeartbeats 4000000 in
set_option maxRecDepth 100000 in
theorem tX11_drop {l : Launch} {g : wkG} {F : Nat} {k n : Nat}  {S : wPS} {l0A : Nat} {l1I : Int32} {l2I : Int32} {Φ : (Int32 → wPS → Prop)} {Ψ : String → wPS → Prop} (hex : wkExA g) (hlt : l.stackTraces = false) (hW : wkWF S) (hl0A : wkIs S l0A 11) (h : rX11_drop F k n l0A l1I l2I S Φ Ψ) : wkMetX l g yX11_drop wvX11_drop 7 k n [.ref l0A, .int l1I, .int l2I] S (fun v' S'' => ∃ v : Int32, v' = some (.int v) ∧ Φ v S'' ∧ wkWF S'' ∧ wkExt S S'') (fun E S'' => Ψ E S'' ∧ wkWF S'' ∧ wkExt S S'') := by
  refine wkMetX_of (ret := (some .int)) (by decide) rfl (Nat.le_of_ble_eq_true rfl) rfl hex hlt (by decide) (fun X hg C hR E EX ET => ?_)
  subst hg
  have hE : wkExt S S := wkExt.rf
  have hd : 7 ≤ 7 := Nat.le_refl _
  show wkGo l X 4 0 0 0 S [some (.ref l0A), some (.int l1I), some (.int l2I), none] []
  unfold rX11_drop at h
  refine wk_aload_n C dX11_drop_0 rfl rfl ?_
  refine wk_iload_n C dX11_drop_1 rfl rfl ?_
  obtain ⟨k4, n5, hk4, hn5, h⟩ := h
  refine wk_callVX C hR EX (As := [.int l1I]) (cnt := 1) (tX11_entryAt (l := l) hex hlt hW hl0A h) rfl (wkGoodV (List.mem_of_getElem? (i := 1) rfl) (List.mem_of_getElem? (i := 2) rfl) (List.mem_of_getElem? (i := 3) rfl) (List.mem_of_getElem? (i := 4) rfl) hbX11_drop_X11_entryAt gdX11_entryAt) (Nat.le_trans (by decide : 6 + 1 ≤ 7) hd) (by decide) hl0A.1 (fun cy => wAt_11 cy _ hl0A.2) rfl ⟨by decide, by decide, by decide +kernel⟩ rfl rfl (Nat.le_of_ble_eq_true rfl) hk4 hn5 dX11_drop_2 (fun E S' q => ⟨q.1, q.2.1, wkExt.tr hE q.2.2⟩) (fun v' S2 hp => ?_)
  obtain ⟨v1, rfl, h, hWS2, hXS2, hIS2⟩ := hp
  refine wk_astore_n C (lv' := [some (.ref l0A), some (.int l1I), some (.int l2I), some (.ref v1)]) dX11_drop_5 rfl (by decide) rfl ?_
  refine wk_iload_n C dX11_drop_6 rfl rfl ?_
  refine wk_aload_n C dX11_drop_7 rfl rfl ?_
  refine wk_get C (v := .int (gEntry_itemCount S2 v1)) huX11_drop_3 hIS2.1 (fun cy => wAt_3 cy _ hIS2.2) rfl 6 (by decide) (List.mem_of_getElem? (i := 5) rfl) rfl rfl dX11_drop_8 ?_
  obtain ⟨k9, n10, hk9, hn10, h⟩ := h
  refine wk_callWX C hR EX (As := [.int l2I, .int (gEntry_itemCount S2 v1)]) (cnt := 2) (tX11_testPlace (l := l) hex hlt hWS2  h) rfl (wkGoodW (List.mem_of_getElem? (i := 6) rfl) (List.mem_of_getElem? (i := 7) rfl) (List.mem_of_getElem? (i := 4) rfl) hbX11_drop_X11_testPlace gdX11_testPlace) (Nat.le_trans (by decide : 6 + 1 ≤ 7) hd) (by decide) ⟨by decide, by decide, by decide +kernel⟩ rfl rfl (Nat.le_of_ble_eq_true rfl) hk9 hn10 dX11_drop_11 (fun E S' q => ⟨q.1, q.2.1, wkExt.tr (wkExt.tr hE hXS2) q.2.2⟩) (fun v' S7 hp => ?_)
  obtain ⟨v6, rfl, h, hWS7, hXS7⟩ := hp
  refine wk_aload_n C dX11_drop_14 rfl rfl ?_
  refine wk_bipush C (v := 100) dX11_drop_15 (by decide) ?_
  refine wk_iload_n C dX11_drop_17 rfl rfl ?_
  refine wk_callV C hR (As := [.int (100 : Int32), .int l1I]) (cnt := 2) (tX11_remember (l := l) hWS7 (hXS7 _ _ (hXS2 _ _ hl0A)) h) rfl (wkGoodV (List.mem_of_getElem? (i := 8) rfl) (List.mem_of_getElem? (i := 9) rfl) (List.mem_of_getElem? (i := 10) rfl) (List.mem_of_getElem? (i := 4) rfl) hbX11_drop_X11_remember gdX11_remember) (Nat.le_trans (by decide : 2 + 1 ≤ 7) hd) (by decide) (hXS7 _ _ (hXS2 _ _ hl0A)).1 (fun cy => wAt_11 cy _ (hXS7 _ _ (hXS2 _ _ hl0A)).2) rfl ⟨by decide, by decide, by decide +kernel⟩ rfl rfl (Nat.le_of_ble_eq_true rfl) hk9 hn10 dX11_drop_18 (fun v' S12 hp => ?_)
  obtain ⟨v11, rfl, h, hWS12, hXS12⟩ := hp
  refine wk_aload_n C dX11_drop_21 rfl rfl ?_
  refine wk_iload_n C dX11_drop_22 rfl rfl ?_
  refine wk_callV C hR (As := [.int l2I]) (cnt := 1) (tX3_removeItem (l := l) hWS12 (hXS12 _ _ (hXS7 _ _ hIS2)) h) rfl (wkGoodV (List.mem_of_getElem? (i := 11) rfl) (List.mem_of_getElem? (i := 12) rfl) (List.mem_of_getElem? (i := 13) rfl) (List.mem_of_getElem? (i := 14) rfl) hbX11_drop_X3_removeItem gdX3_removeItem) (Nat.le_trans (by decide : 1 + 1 ≤ 7) hd) (by decide) (hXS12 _ _ (hXS7 _ _ hIS2)).1 (fun cy => wAt_3 cy _ (hXS12 _ _ (hXS7 _ _ hIS2)).2) rfl ⟨by decide, by decide, by decide +kernel⟩ rfl rfl (Nat.le_of_ble_eq_true rfl) hk9 hn10 dX11_drop_23 (fun v' S17 hp => ?_)
  obtain ⟨v16, rfl, h, hWS17, hXS17⟩ := hp
  refine wk_aload_n C dX11_drop_26 rfl rfl ?_
  refine wk_iconst C (v := 0) dX11_drop_27 (by decide) ?_
  obtain ⟨S21, eS21, h⟩ := wkLt_some h
  refine wk_put C (S' := S21) huX11_drop_3 (hXS17 _ _ (hXS12 _ _ (hXS7 _ _ hIS2))).1 (fun cy => wAt_3 cy _ (hXS17 _ _ (hXS12 _ _ (hXS7 _ _ hIS2))).2) rfl 9 (by decide) (List.mem_of_getElem? (i := 15) rfl) rfl tyX3_ok nmX3 rfl (ty := .boolean) rfl rfl rfl (by show 9 < 17; decide) (fun cy b => by rw [eS21]; exact wSt_3_9 cy _ (hXS17 _ _ (hXS12 _ _ (hXS7 _ _ hIS2))).2 _ b) (by rw [eS21]) dX11_drop_28 ?_
  have hWS21 : wkWF S21 := by rw [eS21]; exact hWS17
  have hXS21 : wkExt S17 S21 := by rw [eS21]; exact wkExt.rf
  refine wk_aload_n C dX11_drop_31 rfl rfl ?_
  refine wk_get C (v := .int (gEntry_itemCount S21 v1)) huX11_drop_3 (hXS21 _ _ (hXS17 _ _ (hXS12 _ _ (hXS7 _ _ hIS2)))).1 (fun cy => wAt_3 cy _ (hXS21 _ _ (hXS17 _ _ (hXS12 _ _ (hXS7 _ _ hIS2)))).2) rfl 6 (by decide) (List.mem_of_getElem? (i := 5) rfl) rfl rfl dX11_drop_32 ?_
  exact E _ _ _ _ _ _ hk9 hn10 dX11_drop_35 ⟨(gEntry_itemCount S21 v1), rfl, h, hWS21, (wkExt.tr (wkExt.tr (wkExt.tr (wkExt.tr (wkExt.tr hE hXS2) hXS7) hXS12) hXS17) hXS21)⟩
def wvX11_sizeOf : List Cond := .code yX11_sizeOf cX11_sizeOf 2 (some .int) :: (([.methodLink RX11 103 yX11_entryAt, .instanceMethod yX11_entryAt, .selects RX11 yX11_entryAt yX11_entryAt, .initialized RX11, .fieldLink RX11 184 "Witnessworks$Entry" "size" "I"] : List Cond) ++ ((wsX30) ++ (wvX11_entryAt)))
theorem huX11_sizeOf_3 : ∀ w ∈ u_ws RX3 TX3 17, w ∈ wvX11_sizeOf := fun w h => List.mem_cons_of_mem _ (List.mem_append_right _ (List.mem_append_left _ h))
theorem hbX11_sizeOf_X11_entryAt : ∀ w ∈ wvX11_entryAt, w ∈ wvX11_sizeOf := fun w h => List.mem_cons_of_mem _ (List.mem_append_right _ (List.mem_append_right _ h))
theorem gdX11_sizeOf : ∀ w ∈ wvX11_sizeOf, wkGd w := wkGdC rfl (wkGdA (wkGdL (by decide +kernel)) (wkGdA gdX3 gdX11_entryAt))
def rX11_sizeOf (F : Nat) (k n : Nat) (l0A : Nat) (l1I : Int32) (S : wPS) (Φ : (Int32 → wPS → Prop)) (Ψ : String → wPS → Prop) : Prop :=
  ∃ k4 n5 : Nat, 0 + k4 ≤ k ∧ 0 + n5 ≤ n ∧ rX11_entryAt F k4 n5 l0A l1I S (fun v1 S2 => Φ (gEntry_size S2 v1) S2) Ψ
set_option maxHeartbeats 4000000 in
set_option maxRecDepth 100000 in
theorem tX11_sizeOf {l : Launch} {g : wkG} {F : Nat} {k n : Nat}  {S : wPS} {l0A : Nat} {l1I : Int32} {Φ : (Int32 → wPS → Prop)} {Ψ : String → wPS → Prop} (hex : wkExA g) (hlt : l.stackTraces = false) (hW : wkWF S) (hl0A : wkIs S l0A 11) (h : rX11_sizeOf F k n l0A l1I S Φ Ψ) : wkMetX l g yX11_sizeOf wvX11_sizeOf 7 k n [.ref l0A, .int l1I] S (fun v' S'' => ∃ v : Int32, v' = some (.int v) ∧ Φ v S'' ∧ wkWF S'' ∧ wkExt S S'') (fun E S'' => Ψ E S'' ∧ wkWF S'' ∧ wkExt S S'') := by
  refine wkMetX_of (ret := (some .int)) (by decide) rfl (Nat.le_of_ble_eq_true rfl) rfl hex hlt (by decide) (fun X hg C hR E EX ET => ?_)
  subst hg
  have hE : wkExt S S := wkExt.rf
  have hd : 7 ≤ 7 := Nat.le_refl _
  show wkGo l X 2 0 0 0 S [some (.ref l0A), some (.int l1I)] []
  unfold rX11_sizeOf at h
  refine wk_aload_n C dX11_sizeOf_0 rfl rfl ?_
  refine wk_iload_n C dX11_sizeOf_1 rfl rfl ?_
  obtain ⟨k4, n5, hk4, hn5, h⟩ := h
  refine wk_callVX C hR EX (As := [.int l1I]) (cnt := 1) (tX11_entryAt (l := l) hex hlt hW hl0A h) rfl (wkGoodV (List.mem_of_getElem? (i := 1) rfl) (List.mem_of_getElem? (i := 2) rfl) (List.mem_of_getElem? (i := 3) rfl) (List.mem_of_getElem? (i := 4) rfl) hbX11_sizeOf_X11_entryAt gdX11_entryAt) (Nat.le_trans (by decide : 6 + 1 ≤ 7) hd) (by decide) hl0A.1 (fun cy => wAt_11 cy _ hl0A.2) rfl ⟨by decide, by decide, by decide +kernel⟩ rfl rfl (Nat.le_of_ble_eq_true rfl) hk4 hn5 dX11_sizeOf_2 (fun E S' q => ⟨q.1, q.2.1, wkExt.tr hE q.2.2⟩) (fun v' S2 hp => ?_)
  obtain ⟨v1, rfl, h, hWS2, hXS2, hIS2⟩ := hp
  refine wk_get C (v := .int (gEntry_size S2 v1)) huX11_sizeOf_3 hIS2.1 (fun cy => wAt_3 cy _ hIS2.2) rfl 1 (by decide) (List.mem_of_getElem? (i := 5) rfl) rfl rfl dX11_sizeOf_5 ?_
  exact E _ _ _ _ _ _ hk4 hn5 dX11_sizeOf_8 ⟨(gEntry_size S2 v1), rfl, h, hWS2, (wkExt.tr hE hXS2)⟩
def wvX11_items : List Cond := .code yX11_items cX11_items 2 (some .int) :: (([.methodLink RX11 103 yX11_entryAt, .instanceMethod yX11_entryAt, .selects RX11 yX11_entryAt yX11_entryAt, .initialized RX11, .fieldLink RX11 111 "Witnessworks$Entry" "itemCount" "I"] : List Cond) ++ ((wsX30) ++ (wvX11_entryAt)))
theorem huX11_items_3 : ∀ w ∈ u_ws RX3 TX3 17, w ∈ wvX11_items := fun w h => List.mem_cons_of_mem _ (List.mem_append_right _ (List.mem_append_left _ h))
theorem hbX11_items_X11_entryAt : ∀ w ∈ wvX11_entryAt, w ∈ wvX11_items := fun w h => List.mem_cons_of_mem _ (List.mem_append_right _ (List.mem_append_right _ h))
theorem gdX11_items : ∀ w ∈ wvX11_items, wkGd w := wkGdC rfl (wkGdA (wkGdL (by decide +kernel)) (wkGdA gdX3 gdX11_entryAt))
def rX11_items (F : Nat) (k n : Nat) (l0A : Nat) (l1I : Int32) (S : wPS) (Φ : (Int32 → wPS → Prop)) (Ψ : String → wPS → Prop) : Prop :=
  ∃ k4 n5 : Nat, 0 + k4 ≤ k ∧ 0 + n5 ≤ n ∧ rX11_entryAt F k4 n5 l0A l1I S (fun v1 S2 => Φ (gEntry_itemCount S2 v1) S2) Ψ
set_option maxHeartbeats 4000000 in
set_option maxRecDepth 100000 in
theorem tX11_items {l : Launch} {g : wkG} {F : Nat} {k n : Nat}  {S : wPS} {l0A : Nat} {l1I : Int32} {Φ : (Int32 → wPS → Prop)} {Ψ : String → wPS → Prop} (hex : wkExA g) (hlt : l.stackTraces = false) (hW : wkWF S) (hl0A : wkIs S l0A 11) (h : rX11_items F k n l0A l1I S Φ Ψ) : wkMetX l g yX11_items wvX11_items 7 k n [.ref l0A, .int l1I] S (fun v' S'' => ∃ v : Int32, v' = some (.int v) ∧ Φ v S'' ∧ wkWF S'' ∧ wkExt S S'') (fun E S'' => Ψ E S'' ∧ wkWF S'' ∧ wkExt S S'') := by
  refine wkMetX_of (ret := (some .int)) (by decide) rfl (Nat.le_of_ble_eq_true rfl) rfl hex hlt (by decide) (fun X hg C hR E EX ET => ?_)
  subst hg
  have hE : wkExt S S := wkExt.rf
  have hd : 7 ≤ 7 := Nat.le_refl _
  show wkGo l X 2 0 0 0 S [some (.ref l0A), some (.int l1I)] []
  unfold rX11_items at h
  refine wk_aload_n C dX11_items_0 rfl rfl ?_
  refine wk_iload_n C dX11_items_1 rfl rfl ?_
  obtain ⟨k4, n5, hk4, hn5, h⟩ := h
  refine wk_callVX C hR EX (As := [.int l1I]) (cnt := 1) (tX11_entryAt (l := l) hex hlt hW hl0A h) rfl (wkGoodV (List.mem_of_getElem? (i := 1) rfl) (List.mem_of_getElem? (i := 2) rfl) (List.mem_of_getElem? (i := 3) rfl) (List.mem_of_getElem? (i := 4) rfl) hbX11_items_X11_entryAt gdX11_entryAt) (Nat.le_trans (by decide : 6 + 1 ≤ 7) hd) (by decide) hl0A.1 (fun cy => wAt_11 cy _ hl0A.2) rfl ⟨by decide, by decide, by decide +kernel⟩ rfl rfl (Nat.le_of_ble_eq_true rfl) hk4 hn5 dX11_items_2 (fun E S' q => ⟨q.1, q.2.1, wkExt.tr hE q.2.2⟩) (fun v' S2 hp => ?_)
  obtain ⟨v1, rfl, h, hWS2, hXS2, hIS2⟩ := hp
  refine wk_get C (v := .int (gEntry_itemCount S2 v1)) huX11_items_3 hIS2.1 (fun cy => wAt_3 cy _ hIS2.2) rfl 6 (by decide) (List.mem_of_getElem? (i := 5) rfl) rfl rfl dX11_items_5 ?_
  exact E _ _ _ _ _ _ hk4 hn5 dX11_items_8 ⟨(gEntry_itemCount S2 v1), rfl, h, hWS2, (wkExt.tr hE hXS2)⟩
def wvX11_item : List Cond := .code yX11_item cX11_item 5 (some .int) :: (([.methodLink RX11 103 yX11_entryAt, .instanceMethod yX11_entryAt, .selects RX11 yX11_entryAt yX11_entryAt, .initialized RX11, .fieldLink RX11 111 "Witnessworks$Entry" "itemCount" "I", .methodLink RX11 132 yX11_testPlace, .static yX11_testPlace, .methodLink RX11 212 yX11_testRange, .static yX11_testRange, .methodLink RX11 215 yX3_at, .instanceMethod yX3_at, .selects RX3 yX3_at yX3_at, .initialized RX3] : List Cond) ++ ((wsX30) ++ (wvX11_entryAt ++ (wvX11_testPlace ++ (wvX11_testRange ++ (wvX3_at))))))
theorem huX11_item_3 : ∀ w ∈ u_ws RX3 TX3 17, w ∈ wvX11_item := fun w h => List.mem_cons_of_mem _ (List.mem_append_right _ (List.mem_append_left _ h))
theorem hbX11_item_X11_entryAt : ∀ w ∈ wvX11_entryAt, w ∈ wvX11_item := fun w h => List.mem_cons_of_mem _ (List.mem_append_right _ (List.mem_append_right _ (List.mem_append_left _ h)))
theorem hbX11_item_X11_testPlace : ∀ w ∈ wvX11_testPlace, w ∈ wvX11_item := fun w h => List.mem_cons_of_mem _ (List.mem_append_right _ (List.mem_append_right _ (List.mem_append_right _ (List.mem_append_left _ h))))
theorem hbX11_item_X11_testRange : ∀ w ∈ wvX11_testRange, w ∈ wvX11_item := fun w h => List.mem_cons_of_mem _ (List.mem_append_right _ (List.mem_append_right _ (List.mem_append_right _ (List.mem_append_right _ (List.mem_append_left _ h)))))
theorem hbX11_item_X3_at : ∀ w ∈ wvX3_at, w ∈ wvX11_item := fun w h => List.mem_cons_of_mem _ (List.mem_append_right _ (List.mem_append_right _ (List.mem_append_right _ (List.mem_append_right _ (List.mem_append_right _ h)))))
theorem gdX11_item : ∀ w ∈ wvX11_item, wkGd w := wkGdC rfl (wkGdA (wkGdL (by decide +kernel)) (wkGdA gdX3 (wkGdA gdX11_entryAt (wkGdA gdX11_testPlace (wkGdA gdX11_testRange gdX3_at)))))
def rX11_item (F : Nat) (k n : Nat) (l0A : Nat) (l1I : Int32) (l2I : Int32) (l3I : Int32) (S : wPS) (Φ : (Int32 → wPS → Prop)) (Ψ : String → wPS → Prop) : Prop :=
  ∃ k4 n5 : Nat, 0 + k4 ≤ k ∧ 0 + n5 ≤ n ∧ rX11_entryAt F k4 n5 l0A l1I S (fun v1 S2 => ∃ k9 n10 : Nat, (0 + k4) + k9 ≤ k ∧ (0 + n5) + n10 ≤ n ∧ rX11_testPlace F k9 n10 l2I (gEntry_itemCount S2 v1) S2 (fun v6 S7 => ∃ k14 n15 : Nat, ((0 + k4) + k9) + k14 ≤ k ∧ ((0 + n5) + n10) + n15 ≤ n ∧ rX11_testRange F k14 n15 l3I (0 : Int32) (4 : Int32) S7 (fun v11 S12 => rX3_at F v1 l2I l3I S12 fun v16 S17 => Φ v16 S17) Ψ) Ψ) Ψ
set_option maxHeartbeats 4000000 in
set_option maxRecDepth 100000 in
theorem tX11_item {l : Launch} {g : wkG} {F : Nat} {k n : Nat}  {S : wPS} {l0A : Nat} {l1I : Int32} {l2I : Int32} {l3I : Int32} {Φ : (Int32 → wPS → Prop)} {Ψ : String → wPS → Prop} (hex : wkExA g) (hlt : l.stackTraces = false) (hW : wkWF S) (hl0A : wkIs S l0A 11) (h : rX11_item F k n l0A l1I l2I l3I S Φ Ψ) : wkMetX l g yX11_item wvX11_item 7 k n [.ref l0A, .int l1I, .int l2I, .int l3I] S (fun v' S'' => ∃ v : Int32, v' = some (.int v) ∧ Φ v S'' ∧ wkWF S'' ∧ wkExt S S'') (fun E S'' => Ψ E S'' ∧ wkWF S'' ∧ wkExt S S'') := by
  refine wkMetX_of (ret := (some .int)) (by decide) rfl (Nat.le_of_ble_eq_true rfl) rfl hex hlt (by decide) (fun X hg C hR E EX ET => ?_)
  subst hg
  have hE : wkExt S S := wkExt.rf
  have hd : 7 ≤ 7 := Nat.le_refl _
  show wkGo l X 5 0 0 0 S [some (.ref l0A), some (.int l1I), some (.int l2I), some (.int l3I), none] []
  unfold rX11_item at h
  refine wk_aload_n C dX11_item_0 rfl rfl ?_
  refine wk_iload_n C dX11_item_1 rfl rfl ?_
  obtain ⟨k4, n5, hk4, hn5, h⟩ := h
  refine wk_callVX C hR EX (As := [.int l1I]) (cnt := 1) (tX11_entryAt (l := l) hex hlt hW hl0A h) rfl (wkGoodV (List.mem_of_getElem? (i := 1) rfl) (List.mem_of_getElem? (i := 2) rfl) (List.mem_of_getElem? (i := 3) rfl) (List.mem_of_getElem? (i := 4) rfl) hbX11_item_X11_entryAt gdX11_entryAt) (Nat.le_trans (by decide : 6 + 1 ≤ 7) hd) (by decide) hl0A.1 (fun cy => wAt_11 cy _ hl0A.2) rfl ⟨by decide, by decide, by decide +kernel⟩ rfl rfl (Nat.le_of_ble_eq_true rfl) hk4 hn5 dX11_item_2 (fun E S' q => ⟨q.1, q.2.1, wkExt.tr hE q.2.2⟩) (fun v' S2 hp => ?_)
  obtain ⟨v1, rfl, h, hWS2, hXS2, hIS2⟩ := hp
  refine wk_astore C (lv' := [some (.ref l0A), some (.int l1I), some (.int l2I), some (.int l3I), some (.ref v1)]) dX11_item_5 (by decide) rfl ?_
  refine wk_iload_n C dX11_item_7 rfl rfl ?_
  refine wk_aload C dX11_item_8 rfl ?_
  refine wk_get C (v := .int (gEntry_itemCount S2 v1)) huX11_item_3 hIS2.1 (fun cy => wAt_3 cy _ hIS2.2) rfl 6 (by decide) (List.mem_of_getElem? (i := 5) rfl) rfl rfl dX11_item_10 ?_
  obtain ⟨k9, n10, hk9, hn10, h⟩ := h
  refine wk_callWX C hR EX (As := [.int l2I, .int (gEntry_itemCount S2 v1)]) (cnt := 2) (tX11_testPlace (l := l) hex hlt hWS2  h) rfl (wkGoodW (List.mem_of_getElem? (i := 6) rfl) (List.mem_of_getElem? (i := 7) rfl) (List.mem_of_getElem? (i := 4) rfl) hbX11_item_X11_testPlace gdX11_testPlace) (Nat.le_trans (by decide : 6 + 1 ≤ 7) hd) (by decide) ⟨by decide, by decide, by decide +kernel⟩ rfl rfl (Nat.le_of_ble_eq_true rfl) hk9 hn10 dX11_item_13 (fun E S' q => ⟨q.1, q.2.1, wkExt.tr (wkExt.tr hE hXS2) q.2.2⟩) (fun v' S7 hp => ?_)
  obtain ⟨v6, rfl, h, hWS7, hXS7⟩ := hp
  refine wk_iload_n C dX11_item_16 rfl rfl ?_
  refine wk_iconst C (v := 0) dX11_item_17 (by decide) ?_
  refine wk_iconst C (v := 4) dX11_item_18 (by decide) ?_
  obtain ⟨k14, n15, hk14, hn15, h⟩ := h
  refine wk_callWX C hR EX (As := [.int l3I, .int (0 : Int32), .int (4 : Int32)]) (cnt := 3) (tX11_testRange (l := l) hex hlt hWS7  h) rfl (wkGoodW (List.mem_of_getElem? (i := 8) rfl) (List.mem_of_getElem? (i := 9) rfl) (List.mem_of_getElem? (i := 4) rfl) hbX11_item_X11_testRange gdX11_testRange) (Nat.le_trans (by decide : 6 + 1 ≤ 7) hd) (by decide) ⟨by decide, by decide, by decide +kernel⟩ rfl rfl (Nat.le_of_ble_eq_true rfl) hk14 hn15 dX11_item_19 (fun E S' q => ⟨q.1, q.2.1, wkExt.tr (wkExt.tr (wkExt.tr hE hXS2) hXS7) q.2.2⟩) (fun v' S12 hp => ?_)
  obtain ⟨v11, rfl, h, hWS12, hXS12⟩ := hp
  refine wk_aload C dX11_item_22 rfl ?_
  refine wk_iload_n C dX11_item_24 rfl rfl ?_
  refine wk_iload_n C dX11_item_25 rfl rfl ?_
  refine wk_callV C hR (As := [.int l2I, .int l3I]) (cnt := 2) (tX3_at (l := l) hWS12 (hXS12 _ _ (hXS7 _ _ hIS2)) h) rfl (wkGoodV (List.mem_of_getElem? (i := 10) rfl) (List.mem_of_getElem? (i := 11) rfl) (List.mem_of_getElem? (i := 12) rfl) (List.mem_of_getElem? (i := 13) rfl) hbX11_item_X3_at gdX3_at) (Nat.le_trans (by decide : 0 + 1 ≤ 7) hd) (by decide) (hXS12 _ _ (hXS7 _ _ hIS2)).1 (fun cy => wAt_3 cy _ (hXS12 _ _ (hXS7 _ _ hIS2)).2) rfl ⟨by decide, by decide, by decide +kernel⟩ rfl rfl (Nat.le_of_ble_eq_true rfl) hk14 hn15 dX11_item_26 (fun v' S17 hp => ?_)
  obtain ⟨v16, rfl, h, hWS17, hXS17⟩ := hp
  exact E _ _ _ _ _ _ hk14 hn15 dX11_item_29 ⟨v16, rfl, h, hWS17, (wkExt.tr (wkExt.tr (wkExt.tr (wkExt.tr hE hXS2) hXS7) hXS12) hXS17)⟩
def wvX11_cameFrom : List Cond := .code yX11_cameFrom cX11_cameFrom 3 (some .int) :: (([.methodLink RX11 103 yX11_entryAt, .instanceMethod yX11_entryAt, .selects RX11 yX11_entryAt yX11_entryAt, .initialized RX11, .fieldLink RX11 191 "Witnessworks$Entry" "origin" "I"] : List Cond) ++ ((wsX30) ++ (wvX11_entryAt)))
theorem huX11_cameFrom_3 : ∀ w ∈ u_ws RX3 TX3 17, w ∈ wvX11_cameFrom := fun w h => List.mem_cons_of_mem _ (List.mem_append_right _ (List.mem_append_left _ h))
theorem hbX11_cameFrom_X11_entryAt : ∀ w ∈ wvX11_entryAt, w ∈ wvX11_cameFrom := fun w h => List.mem_cons_of_mem _ (List.mem_append_right _ (List.mem_append_right _ h))
theorem gdX11_cameFrom : ∀ w ∈ wvX11_cameFrom, wkGd w := wkGdC rfl (wkGdA (wkGdL (by decide +kernel)) (wkGdA gdX3 gdX11_entryAt))
def rX11_cameFrom (F : Nat) (k n : Nat) (l0A : Nat) (l1I : Int32) (S : wPS) (Φ : (Int32 → wPS → Prop)) (Ψ : String → wPS → Prop) : Prop :=
  ∃ k4 n5 : Nat, 0 + k4 ≤ k ∧ 0 + n5 ≤ n ∧ rX11_entryAt F k4 n5 l0A l1I S (fun v1 S2 => if 0 ≤ (gEntry_origin S2 v1) then (Φ (gEntry_origin S2 v1) S2) else ((0 + k4) + 1 ≤ k ∧ (0 + n5) + 6 ≤ n ∧ Ψ "java/util/NoSuchElementException" S2)) Ψ
set_option maxHeartbeats 4000000 in
set_option maxRecDepth 100000 in
theorem tX11_cameFrom {l : Launch} {g : wkG} {F : Nat} {k n : Nat}  {S : wPS} {l0A : Nat} {l1I : Int32} {Φ : (Int32 → wPS → Prop)} {Ψ : String → wPS → Prop} (hex : wkExA g) (hlt : l.stackTraces = false) (hW : wkWF S) (hl0A : wkIs S l0A 11) (h : rX11_cameFrom F k n l0A l1I S Φ Ψ) : wkMetX l g yX11_cameFrom wvX11_cameFrom 7 k n [.ref l0A, .int l1I] S (fun v' S'' => ∃ v : Int32, v' = some (.int v) ∧ Φ v S'' ∧ wkWF S'' ∧ wkExt S S'') (fun E S'' => Ψ E S'' ∧ wkWF S'' ∧ wkExt S S'') := by
  refine wkMetX_of (ret := (some .int)) (by decide) rfl (Nat.le_of_ble_eq_true rfl) rfl hex hlt (by decide) (fun X hg C hR E EX ET => ?_)
  subst hg
  have hE : wkExt S S := wkExt.rf
  have hd : 7 ≤ 7 := Nat.le_refl _
  show wkGo l X 3 0 0 0 S [some (.ref l0A), some (.int l1I), none] []
  unfold rX11_cameFrom at h
  refine wk_aload_n C dX11_cameFrom_0 rfl rfl ?_
  refine wk_iload_n C dX11_cameFrom_1 rfl rfl ?_
  obtain ⟨k4, n5, hk4, hn5, h⟩ := h
  refine wk_callVX C hR EX (As := [.int l1I]) (cnt := 1) (tX11_entryAt (l := l) hex hlt hW hl0A h) rfl (wkGoodV (List.mem_of_getElem? (i := 1) rfl) (List.mem_of_getElem? (i := 2) rfl) (List.mem_of_getElem? (i := 3) rfl) (List.mem_of_getElem? (i := 4) rfl) hbX11_cameFrom_X11_entryAt gdX11_entryAt) (Nat.le_trans (by decide : 6 + 1 ≤ 7) hd) (by decide) hl0A.1 (fun cy => wAt_11 cy _ hl0A.2) rfl ⟨by decide, by decide, by decide +kernel⟩ rfl rfl (Nat.le_of_ble_eq_true rfl) hk4 hn5 dX11_cameFrom_2 (fun E S' q => ⟨q.1, q.2.1, wkExt.tr hE q.2.2⟩) (fun v' S2 hp => ?_)
  obtain ⟨v1, rfl, h, hWS2, hXS2, hIS2⟩ := hp
  refine wk_astore_n C (lv' := [some (.ref l0A), some (.int l1I), some (.ref v1)]) dX11_cameFrom_5 rfl (by decide) rfl ?_
  refine wk_aload_n C dX11_cameFrom_6 rfl rfl ?_
  refine wk_get C (v := .int (gEntry_origin S2 v1)) huX11_cameFrom_3 hIS2.1 (fun cy => wAt_3 cy _ hIS2.2) rfl 5 (by decide) (List.mem_of_getElem? (i := 5) rfl) rfl rfl dX11_cameFrom_7 ?_
  refine wk_if_ge C (tgt := 23) dX11_cameFrom_10 (by decide) (fun c6 => ?_) (fun c6 => ?_)
  · rw [if_pos c6] at h
    refine wk_aload_n C dX11_cameFrom_23 rfl rfl ?_
    refine wk_get C (v := .int (gEntry_origin S2 v1)) huX11_cameFrom_3 hIS2.1 (fun cy => wAt_3 cy _ hIS2.2) rfl 5 (by decide) (List.mem_of_getElem? (i := 5) rfl) rfl rfl dX11_cameFrom_24 ?_
    exact E _ _ _ _ _ _ hk4 hn5 dX11_cameFrom_27 ⟨(gEntry_origin S2 v1), rfl, h, hWS2, (wkExt.tr hE hXS2)⟩
  · rw [if_neg c6] at h
    obtain ⟨t7a, t7b, h⟩ := h
    exact ET _ _ _ _ _ _ (197, 219, 201, "java/util/NoSuchElementException", "it came from none") (by decide +kernel) (Nat.le_of_ble_eq_true rfl) (Or.inl ⟨dX11_cameFrom_13, dX11_cameFrom_16, dX11_cameFrom_17, dX11_cameFrom_19, dX11_cameFrom_22⟩) ⟨h, hWS2, (wkExt.tr hE hXS2)⟩ t7a t7b
def wvX11_type : List Cond := .code yX11_type cX11_type 2 (some .int) :: (([.fieldLink RX11 47 "Witnessworks" "typed" "LWitnessworks$Row;", .fieldLink RX11 230 "Witnessworks$Row" "count" "I", .methodLink RX11 346 yX9_add, .instanceMethod yX9_add, .selects RX9 yX9_add yX9_add, .initialized RX9] : List Cond) ++ ((wsX110 ++ (wsX90)) ++ (wvX9_add)))
theorem huX11_type_11 : ∀ w ∈ u_ws RX11 TX11 19, w ∈ wvX11_type := fun w h => List.mem_cons_of_mem _ (List.mem_append_right _ (List.mem_append_left _ (List.mem_append_left _ h)))
theorem huX11_type_9 : ∀ w ∈ u_ws RX9 TX9 2, w ∈ wvX11_type := fun w h => List.mem_cons_of_mem _ (List.mem_append_right _ (List.mem_append_left _ (List.mem_append_right _ h)))
theorem hbX11_type_X9_add : ∀ w ∈ wvX9_add, w ∈ wvX11_type := fun w h => List.mem_cons_of_mem _ (List.mem_append_right _ (List.mem_append_right _ h))
theorem gdX11_type : ∀ w ∈ wvX11_type, wkGd w := wkGdC rfl (wkGdA (wkGdL (by decide +kernel)) (wkGdA (wkGdA gdX11 gdX9) gdX9_add))
def rX11_type (F : Nat) (k n : Nat) (l0A : Nat) (l1I : Int32) (S : wPS) (Φ : (Int32 → wPS → Prop)) (Ψ : String → wPS → Prop) : Prop :=
  if (gRow_count S (wkAd (gWitnessworks_typed S l0A))) < (64 : Int32) then (∃ k5 n6 : Nat, 0 + k5 ≤ k ∧ 0 + n6 ≤ n ∧ rX9_add F k5 n6 (wkAd (gWitnessworks_typed S l0A)) l1I S fun v2 S3 => Φ (gRow_count S3 (wkAd (gWitnessworks_typed S3 l0A))) S3) else (0 + 1 ≤ k ∧ 0 + 6 ≤ n ∧ Ψ "java/lang/IllegalStateException" S)
set_option maxHeartbeats 4000000 in
set_option maxRecDepth 100000 in
theorem tX11_type {l : Launch} {g : wkG} {F : Nat} {k n : Nat}  {S : wPS} {l0A : Nat} {l1I : Int32} {Φ : (Int32 → wPS → Prop)} {Ψ : String → wPS → Prop} (hex : wkExA g) (hlt : l.stackTraces = false) (hW : wkWF S) (hl0A : wkIs S l0A 11) (h : rX11_type F k n l0A l1I S Φ Ψ) : wkMetX l g yX11_type wvX11_type 6 k n [.ref l0A, .int l1I] S (fun v' S'' => ∃ v : Int32, v' = some (.int v) ∧ Φ v S'' ∧ wkWF S'' ∧ wkExt S S'') (fun E S'' => Ψ E S'' ∧ wkWF S'' ∧ wkExt S S'') := by
  refine wkMetX_of (ret := (some .int)) (by decide) rfl (Nat.le_of_ble_eq_true rfl) rfl hex hlt (by decide) (fun X hg C hR E EX ET => ?_)
  subst hg
  have hE : wkExt S S := wkExt.rf
  have hd : 6 ≤ 6 := Nat.le_refl _
  show wkGo l X 2 0 0 0 S [some (.ref l0A), some (.int l1I)] []
  unfold rX11_type at h
  refine wk_aload_n C dX11_type_0 rfl rfl ?_
  refine wk_get C huX11_type_11 hl0A.1 (fun cy => wAt_11 cy _ hl0A.2) rfl 11 (by decide) (List.mem_of_getElem? (i := 1) rfl) rfl (congrArg some (congrArg va_rf (wf_Witnessworks_typed hW hl0A).1)) dX11_type_1 ?_
  refine wk_get C (v := .int (gRow_count S (wkAd (gWitnessworks_typed S l0A)))) huX11_type_9 (wf_Witnessworks_typed hW hl0A).2.1 (fun cy => wAt_9 cy _ (wf_Witnessworks_typed hW hl0A).2.2) rfl 1 (by decide) (List.mem_of_getElem? (i := 2) rfl) rfl rfl dX11_type_4 ?_
  refine wk_bipush C (v := 64) dX11_type_7 (by decide) ?_
  refine wk_icmp_lt C (tgt := 23) dX11_type_9 (by decide) (fun c1 => ?_) (fun c1 => ?_)
  · rw [if_pos c1] at h
    refine wk_aload_n C dX11_type_23 rfl rfl ?_
    refine wk_get C huX11_type_11 hl0A.1 (fun cy => wAt_11 cy _ hl0A.2) rfl 11 (by decide) (List.mem_of_getElem? (i := 1) rfl) rfl (congrArg some (congrArg va_rf (wf_Witnessworks_typed hW hl0A).1)) dX11_type_24 ?_
    refine wk_iload_n C dX11_type_27 rfl rfl ?_
    obtain ⟨k5, n6, hk5, hn6, h⟩ := h
    refine wk_callV C hR (As := [.int l1I]) (cnt := 1) (tX9_add (l := l) hW (wf_Witnessworks_typed hW hl0A).2 h) rfl (wkGoodV (List.mem_of_getElem? (i := 3) rfl) (List.mem_of_getElem? (i := 4) rfl) (List.mem_of_getElem? (i := 5) rfl) (List.mem_of_getElem? (i := 6) rfl) hbX11_type_X9_add gdX9_add) (Nat.le_trans (by decide : 2 + 1 ≤ 6) hd) (by decide) (wf_Witnessworks_typed hW hl0A).2.1 (fun cy => wAt_9 cy _ (wf_Witnessworks_typed hW hl0A).2.2) rfl ⟨by decide, by decide, by decide +kernel⟩ rfl rfl (Nat.le_of_ble_eq_true rfl) hk5 hn6 dX11_type_28 (fun v' S3 hp => ?_)
    obtain ⟨v2, rfl, h, hWS3, hXS3⟩ := hp
    refine wk_aload_n C dX11_type_31 rfl rfl ?_
    refine wk_get C huX11_type_11 (hXS3 _ _ hl0A).1 (fun cy => wAt_11 cy _ (hXS3 _ _ hl0A).2) rfl 11 (by decide) (List.mem_of_getElem? (i := 1) rfl) rfl (congrArg some (congrArg va_rf (wf_Witnessworks_typed hWS3 (hXS3 _ _ hl0A)).1)) dX11_type_32 ?_
    refine wk_get C (v := .int (gRow_count S3 (wkAd (gWitnessworks_typed S3 l0A)))) huX11_type_9 (wf_Witnessworks_typed hWS3 (hXS3 _ _ hl0A)).2.1 (fun cy => wAt_9 cy _ (wf_Witnessworks_typed hWS3 (hXS3 _ _ hl0A)).2.2) rfl 1 (by decide) (List.mem_of_getElem? (i := 2) rfl) rfl rfl dX11_type_35 ?_
    exact E _ _ _ _ _ _ hk5 hn6 dX11_type_38 ⟨(gRow_count S3 (wkAd (gWitnessworks_typed S3 l0A))), rfl, h, hWS3, (wkExt.tr hE hXS3)⟩
  · rw [if_neg c1] at h
    obtain ⟨t7a, t7b, h⟩ := h
    exact ET _ _ _ _ _ _ (90, 344, 94, "java/lang/IllegalStateException", "the typed row is full") (by decide +kernel) (Nat.le_of_ble_eq_true rfl) (Or.inr ⟨dX11_type_12, dX11_type_15, dX11_type_16, dX11_type_19, dX11_type_22⟩) ⟨h, hW, hE⟩ t7a t7b
def wvX11_alter : List Cond := .code yX11_alter cX11_alter 4 (some .int) :: (([.fieldLink RX11 47 "Witnessworks" "typed" "LWitnessworks$Row;", .fieldLink RX11 230 "Witnessworks$Row" "count" "I", .methodLink RX11 132 yX11_testPlace, .static yX11_testPlace, .initialized RX11, .methodLink RX11 233 yX9_at, .instanceMethod yX9_at, .selects RX9 yX9_at yX9_at, .initialized RX9, .methodLink RX11 354 yX9_set, .instanceMethod yX9_set, .selects RX9 yX9_set yX9_set] : List Cond) ++ ((wsX110 ++ (wsX90)) ++ (wvX11_testPlace ++ (wvX9_at ++ (wvX9_set)))))
theorem huX11_alter_11 : ∀ w ∈ u_ws RX11 TX11 19, w ∈ wvX11_alter := fun w h => List.mem_cons_of_mem _ (List.mem_append_right _ (List.mem_append_left _ (List.mem_append_left _ h)))
theorem huX11_alter_9 : ∀ w ∈ u_ws RX9 TX9 2, w ∈ wvX11_alter := fun w h => List.mem_cons_of_mem _ (List.mem_append_right _ (List.mem_append_left _ (List.mem_append_right _ h)))
theorem hbX11_alter_X11_testPlace : ∀ w ∈ wvX11_testPlace, w ∈ wvX11_alter := fun w h => List.mem_cons_of_mem _ (List.mem_append_right _ (List.mem_append_right _ (List.mem_append_left _ h)))
theorem hbX11_alter_X9_at : ∀ w ∈ wvX9_at, w ∈ wvX11_alter := fun w h => List.mem_cons_of_mem _ (List.mem_append_right _ (List.mem_append_right _ (List.mem_append_right _ (List.mem_append_left _ h))))
theorem hbX11_alter_X9_set : ∀ w ∈ wvX9_set, w ∈ wvX11_alter := fun w h => List.mem_cons_of_mem _ (List.mem_append_right _ (List.mem_append_right _ (List.mem_append_right _ (List.mem_append_right _ h))))
theorem gdX11_alter : ∀ w ∈ wvX11_alter, wkGd w := wkGdC rfl (wkGdA (wkGdL (by decide +kernel)) (wkGdA (wkGdA gdX11 gdX9) (wkGdA gdX11_testPlace (wkGdA gdX9_at gdX9_set))))
def rX11_alter (F : Nat) (k n : Nat) (l0A : Nat) (l1I : Int32) (l2I : Int32) (S : wPS) (Φ : (Int32 → wPS → Prop)) (Ψ : String → wPS → Prop) : Prop :=
  ∃ k4 n5 : Nat, 0 + k4 ≤ k ∧ 0 + n5 ≤ n ∧ rX11_testPlace F k4 n5 l1I (gRow_count S (wkAd (gWitnessworks_typed S l0A))) S (fun v1 S2 => rX9_at F (wkAd (gWitnessworks_typed S2 l0A)) l1I S2 fun v6 S7 => rX9_set F (wkAd (gWitnessworks_typed S7 l0A)) l1I l2I S7 fun v11 S12 => Φ v6 S12) Ψ
set_option maxHeartbeats 4000000 in
set_option maxRecDepth 100000 in
theorem tX11_alter {l : Launch} {g : wkG} {F : Nat} {k n : Nat}  {S : wPS} {l0A : Nat} {l1I : Int32} {l2I : Int32} {Φ : (Int32 → wPS → Prop)} {Ψ : String → wPS → Prop} (hex : wkExA g) (hlt : l.stackTraces = false) (hW : wkWF S) (hl0A : wkIs S l0A 11) (h : rX11_alter F k n l0A l1I l2I S Φ Ψ) : wkMetX l g yX11_alter wvX11_alter 7 k n [.ref l0A, .int l1I, .int l2I] S (fun v' S'' => ∃ v : Int32, v' = some (.int v) ∧ Φ v S'' ∧ wkWF S'' ∧ wkExt S S'') (fun E S'' => Ψ E S'' ∧ wkWF S'' ∧ wkExt S S'') := by
  refine wkMetX_of (ret := (some .int)) (by decide) rfl (Nat.le_of_ble_eq_true rfl) rfl hex hlt (by decide) (fun X hg C hR E EX ET => ?_)
  subst hg
  have hE : wkExt S S := wkExt.rf
  have hd : 7 ≤ 7 := Nat.le_refl _
  show wkGo l X 4 0 0 0 S [some (.ref l0A), some (.int l1I), some (.int l2I), none] []
  unfold rX11_alter at h
  refine wk_iload_n C dX11_alter_0 rfl rfl ?_
  refine wk_aload_n C dX11_alter_1 rfl rfl ?_
  refine wk_get C huX11_alter_11 hl0A.1 (fun cy => wAt_11 cy _ hl0A.2) rfl 11 (by decide) (List.mem_of_getElem? (i := 1) rfl) rfl (congrArg some (congrArg va_rf (wf_Witnessworks_typed hW hl0A).1)) dX11_alter_2 ?_
  refine wk_get C (v := .int (gRow_count S (wkAd (gWitnessworks_typed S l0A)))) huX11_alter_9 (wf_Witnessworks_typed hW hl0A).2.1 (fun cy => wAt_9 cy _ (wf_Witnessworks_typed hW hl0A).2.2) rfl 1 (by decide) (List.mem_of_getElem? (i := 2) rfl) rfl rfl dX11_alter_5 ?_
  obtain ⟨k4, n5, hk4, hn5, h⟩ := h
  refine wk_callWX C hR EX (As := [.int l1I, .int (gRow_count S (wkAd (gWitnessworks_typed S l0A)))]) (cnt := 2) (tX11_testPlace (l := l) hex hlt hW  h) rfl (wkGoodW (List.mem_of_getElem? (i := 3) rfl) (List.mem_of_getElem? (i := 4) rfl) (List.mem_of_getElem? (i := 5) rfl) hbX11_alter_X11_testPlace gdX11_testPlace) (Nat.le_trans (by decide : 6 + 1 ≤ 7) hd) (by decide) ⟨by decide, by decide, by decide +kernel⟩ rfl rfl (Nat.le_of_ble_eq_true rfl) hk4 hn5 dX11_alter_8 (fun E S' q => ⟨q.1, q.2.1, wkExt.tr hE q.2.2⟩) (fun v' S2 hp => ?_)
  obtain ⟨v1, rfl, h, hWS2, hXS2⟩ := hp
  refine wk_aload_n C dX11_alter_11 rfl rfl ?_
  refine wk_get C huX11_alter_11 (hXS2 _ _ hl0A).1 (fun cy => wAt_11 cy _ (hXS2 _ _ hl0A).2) rfl 11 (by decide) (List.mem_of_getElem? (i := 1) rfl) rfl (congrArg some (congrArg va_rf (wf_Witnessworks_typed hWS2 (hXS2 _ _ hl0A)).1)) dX11_alter_12 ?_
  refine wk_iload_n C dX11_alter_15 rfl rfl ?_
  refine wk_callV C hR (As := [.int l1I]) (cnt := 1) (tX9_at (l := l) hWS2 (wf_Witnessworks_typed hWS2 (hXS2 _ _ hl0A)).2 h) rfl (wkGoodV (List.mem_of_getElem? (i := 6) rfl) (List.mem_of_getElem? (i := 7) rfl) (List.mem_of_getElem? (i := 8) rfl) (List.mem_of_getElem? (i := 9) rfl) hbX11_alter_X9_at gdX9_at) (Nat.le_trans (by decide : 0 + 1 ≤ 7) hd) (by decide) (wf_Witnessworks_typed hWS2 (hXS2 _ _ hl0A)).2.1 (fun cy => wAt_9 cy _ (wf_Witnessworks_typed hWS2 (hXS2 _ _ hl0A)).2.2) rfl ⟨by decide, by decide, by decide +kernel⟩ rfl rfl (Nat.le_of_ble_eq_true rfl) hk4 hn5 dX11_alter_16 (fun v' S7 hp => ?_)
  obtain ⟨v6, rfl, h, hWS7, hXS7⟩ := hp
  refine wk_istore_n C (lv' := [some (.ref l0A), some (.int l1I), some (.int l2I), some (.int v6)]) dX11_alter_19 rfl (by decide) rfl ?_
  refine wk_aload_n C dX11_alter_20 rfl rfl ?_
  refine wk_get C huX11_alter_11 (hXS7 _ _ (hXS2 _ _ hl0A)).1 (fun cy => wAt_11 cy _ (hXS7 _ _ (hXS2 _ _ hl0A)).2) rfl 11 (by decide) (List.mem_of_getElem? (i := 1) rfl) rfl (congrArg some (congrArg va_rf (wf_Witnessworks_typed hWS7 (hXS7 _ _ (hXS2 _ _ hl0A))).1)) dX11_alter_21 ?_
  refine wk_iload_n C dX11_alter_24 rfl rfl ?_
  refine wk_iload_n C dX11_alter_25 rfl rfl ?_
  refine wk_callV C hR (As := [.int l1I, .int l2I]) (cnt := 2) (tX9_set (l := l) hWS7 (wf_Witnessworks_typed hWS7 (hXS7 _ _ (hXS2 _ _ hl0A))).2 h) rfl (wkGoodV (List.mem_of_getElem? (i := 10) rfl) (List.mem_of_getElem? (i := 11) rfl) (List.mem_of_getElem? (i := 12) rfl) (List.mem_of_getElem? (i := 9) rfl) hbX11_alter_X9_set gdX9_set) (Nat.le_trans (by decide : 0 + 1 ≤ 7) hd) (by decide) (wf_Witnessworks_typed hWS7 (hXS7 _ _ (hXS2 _ _ hl0A))).2.1 (fun cy => wAt_9 cy _ (wf_Witnessworks_typed hWS7 (hXS7 _ _ (hXS2 _ _ hl0A))).2.2) rfl ⟨by decide, by decide, by decide +kernel⟩ rfl rfl (Nat.le_of_ble_eq_true rfl) hk4 hn5 dX11_alter_26 (fun v' S12 hp => ?_)
  obtain ⟨v11, rfl, h, hWS12, hXS12⟩ := hp
  refine wk_iload_n C dX11_alter_29 rfl rfl ?_
  exact E _ _ _ _ _ _ hk4 hn5 dX11_alter_30 ⟨v6, rfl, h, hWS12, (wkExt.tr (wkExt.tr (wkExt.tr hE hXS2) hXS7) hXS12)⟩
