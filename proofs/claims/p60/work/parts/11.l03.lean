def wvL_drop : List Cond := .codeWith yL_drop cL_drop 4 (some .long) [(0, 7, 8, 28), (0, 7, 13, 40)] :: (([.constantLong RL 18 (-4000000000000000001), .constantLong RL 22 (-4000000000000000002), .methodLink RL 42 yX11_drop, .instanceMethod yX11_drop, .selects RX11 yX11_drop yX11_drop, .initialized RX11, .classLink RL 28 "java/lang/IndexOutOfBoundsException", .classLink RL 40 "java/util/NoSuchElementException"] : List Cond) ++ (([]) ++ (wvX11_drop)))
theorem hbL_drop_X11_drop : ∀ w ∈ wvX11_drop, w ∈ wvL_drop := fun w h => List.mem_cons_of_mem _ (List.mem_append_right _ (List.mem_append_right _ h))
theorem gdL_drop : ∀ w ∈ wvL_drop, wkGd w := wkGdC rfl (wkGdA (wkGdL (by decide +kernel)) (wkGdA (fun _ h => absurd h List.not_mem_nil) gdX11_drop))
def rL_drop (G : wkG) (F : Nat) (k n : Nat) (l0A : Nat) (l1I : Int32) (l2I : Int32) (S : wPS) (Φ : (Int64 → wPS → Prop)) : Prop :=
  ∃ k4 n5 : Nat, 0 + k4 ≤ k ∧ 0 + n5 ≤ n ∧ rX11_drop F k4 n5 l0A l1I l2I S (fun v1 S2 => Φ (Int32.toInt64 v1) S2) (fun E6 S7 => if E6 = "java/lang/IndexOutOfBoundsException" then (Φ (-4000000000000000001 : Int64) S7) else if E6 = "java/util/NoSuchElementException" then (Φ (-4000000000000000002 : Int64) S7) else False)
set_option maxHeartbeats 4000000 in
set_option maxRecDepth 100000 in
theorem tL_drop {l : Launch} {g : wkG} {F : Nat} {k n : Nat}  {S : wPS} {l0A : Nat} {l1I : Int32} {l2I : Int32} {Φ : (Int64 → wPS → Prop)} (hcs : wkCast g) (hex : wkExA g) (hlt : l.stackTraces = false) (hW : wkWF S) (hl0A : wkIs S l0A 11) (h : rL_drop g F k n l0A l1I l2I S Φ) : wkMet l g yL_drop wvL_drop 8 k n [.ref l0A, .int l1I, .int l2I] S (fun v' S'' => ∃ v : Int64, v' = some (.long v) ∧ Φ v S'' ∧ wkWF S'' ∧ wkExt S S'') := by
  refine wkMet_ofT (ret := (some .long)) (plainFor_of_name (by decide)) rfl (Nat.le_of_ble_eq_true rfl) (fun X hg C hR hT E => ?_)
  subst hg
  have hE : wkExt S S := wkExt.rf
  have hd : 8 ≤ 8 := Nat.le_refl _
  show wkGo l X 4 0 0 0 S [some (.ref l0A), some (.int l1I), some (.int l2I), none] []
  unfold rL_drop at h
  refine wk_aload_n C dL_drop_0 rfl rfl ?_
  refine wk_iload_n C dL_drop_1 rfl rfl ?_
  refine wk_iload_n C dL_drop_2 rfl rfl ?_
  obtain ⟨k4, n5, hk4, hn5, h⟩ := h
  refine wk_callVH C hT hcs hR (As := [.int l1I, .int l2I]) (cnt := 2) (tX11_drop (l := l) hex hlt hW hl0A h) rfl (wkGoodV (List.mem_of_getElem? (i := 3) rfl) (List.mem_of_getElem? (i := 4) rfl) (List.mem_of_getElem? (i := 5) rfl) (List.mem_of_getElem? (i := 6) rfl) hbL_drop_X11_drop gdX11_drop) (Nat.le_trans (by decide : 7 + 1 ≤ 8) hd) (by decide) hl0A.1 (fun cy => wAt_11 cy _ hl0A.2) rfl ⟨by decide, by decide, by decide +kernel⟩ rfl rfl (Nat.le_of_ble_eq_true rfl) hk4 hn5 dL_drop_3 (fun E6 S7 hx => ?_) (fun v' S2 hp => ?_)
  · obtain ⟨hx, hWS7, hXS7⟩ := hx
    rcases wkIf hx with ⟨cE, h⟩ | ⟨-, hx⟩
    · subst cE
      refine ⟨[], [(0, 7, 13, 40)], 0, 7, 8, 28, rfl, (fun _ h => absurd h List.not_mem_nil), rfl, by decide, (List.mem_of_getElem? (i := 7) rfl), by decide +kernel, fun q8 => ?_⟩
      refine wk_astore_n C (lv' := [some (.ref l0A), some (.int l1I), some (.int l2I), some (.ref q8)]) dL_drop_8 rfl (by decide) rfl ?_
      refine wk_ldc2 C (v := (-4000000000000000001)) (List.mem_of_getElem? (i := 1) rfl) dL_drop_9 ?_
      exact E _ _ _ _ _ _ hk4 hn5 dL_drop_12 ⟨(-4000000000000000001 : Int64), rfl, h, hWS7, (wkExt.tr hE hXS7)⟩
    · skip
      rcases wkIf hx with ⟨cE, h⟩ | ⟨-, hx⟩
      · subst cE
        refine ⟨[(0, 7, 8, 28)], [], 0, 7, 13, 40, rfl, (List.forall_mem_cons.mpr ⟨⟨by decide, "java/lang/IndexOutOfBoundsException", (List.mem_of_getElem? (i := 7) rfl), by decide +kernel⟩, (fun _ h => absurd h List.not_mem_nil)⟩), rfl, by decide, (List.mem_of_getElem? (i := 8) rfl), by decide +kernel, fun q9 => ?_⟩
        refine wk_astore_n C (lv' := [some (.ref l0A), some (.int l1I), some (.int l2I), some (.ref q9)]) dL_drop_13 rfl (by decide) rfl ?_
        refine wk_ldc2 C (v := (-4000000000000000002)) (List.mem_of_getElem? (i := 2) rfl) dL_drop_14 ?_
        exact E _ _ _ _ _ _ hk4 hn5 dL_drop_17 ⟨(-4000000000000000002 : Int64), rfl, h, hWS7, (wkExt.tr hE hXS7)⟩
      · exact hx.elim
  obtain ⟨v1, rfl, h, hWS2, hXS2⟩ := hp
  refine wk_i2l C dL_drop_6 rfl ?_
  exact E _ _ _ _ _ _ hk4 hn5 dL_drop_7 ⟨(Int32.toInt64 v1), rfl, h, hWS2, (wkExt.tr hE hXS2)⟩
def wvL_sizeOf : List Cond := .codeWith yL_sizeOf cL_sizeOf 3 (some .long) [(0, 6, 7, 28)] :: (([.constantLong RL 18 (-4000000000000000001), .methodLink RL 73 yX11_sizeOf, .instanceMethod yX11_sizeOf, .selects RX11 yX11_sizeOf yX11_sizeOf, .initialized RX11, .classLink RL 28 "java/lang/IndexOutOfBoundsException"] : List Cond) ++ (([]) ++ (wvX11_sizeOf)))
theorem hbL_sizeOf_X11_sizeOf : ∀ w ∈ wvX11_sizeOf, w ∈ wvL_sizeOf := fun w h => List.mem_cons_of_mem _ (List.mem_append_right _ (List.mem_append_right _ h))
theorem gdL_sizeOf : ∀ w ∈ wvL_sizeOf, wkGd w := wkGdC rfl (wkGdA (wkGdL (by decide +kernel)) (wkGdA (fun _ h => absurd h List.not_mem_nil) gdX11_sizeOf))
def rL_sizeOf (G : wkG) (F : Nat) (k n : Nat) (l0A : Nat) (l1I : Int32) (S : wPS) (Φ : (Int64 → wPS → Prop)) : Prop :=
  ∃ k4 n5 : Nat, 0 + k4 ≤ k ∧ 0 + n5 ≤ n ∧ rX11_sizeOf F k4 n5 l0A l1I S (fun v1 S2 => Φ (Int32.toInt64 v1) S2) (fun E6 S7 => if E6 = "java/lang/IndexOutOfBoundsException" then (Φ (-4000000000000000001 : Int64) S7) else False)
set_option maxHeartbeats 4000000 in
set_option maxRecDepth 100000 in
theorem tL_sizeOf {l : Launch} {g : wkG} {F : Nat} {k n : Nat}  {S : wPS} {l0A : Nat} {l1I : Int32} {Φ : (Int64 → wPS → Prop)} (hcs : wkCast g) (hex : wkExA g) (hlt : l.stackTraces = false) (hW : wkWF S) (hl0A : wkIs S l0A 11) (h : rL_sizeOf g F k n l0A l1I S Φ) : wkMet l g yL_sizeOf wvL_sizeOf 8 k n [.ref l0A, .int l1I] S (fun v' S'' => ∃ v : Int64, v' = some (.long v) ∧ Φ v S'' ∧ wkWF S'' ∧ wkExt S S'') := by
  refine wkMet_ofT (ret := (some .long)) (plainFor_of_name (by decide)) rfl (Nat.le_of_ble_eq_true rfl) (fun X hg C hR hT E => ?_)
  subst hg
  have hE : wkExt S S := wkExt.rf
  have hd : 8 ≤ 8 := Nat.le_refl _
  show wkGo l X 3 0 0 0 S [some (.ref l0A), some (.int l1I), none] []
  unfold rL_sizeOf at h
  refine wk_aload_n C dL_sizeOf_0 rfl rfl ?_
  refine wk_iload_n C dL_sizeOf_1 rfl rfl ?_
  obtain ⟨k4, n5, hk4, hn5, h⟩ := h
  refine wk_callVH C hT hcs hR (As := [.int l1I]) (cnt := 1) (tX11_sizeOf (l := l) hex hlt hW hl0A h) rfl (wkGoodV (List.mem_of_getElem? (i := 2) rfl) (List.mem_of_getElem? (i := 3) rfl) (List.mem_of_getElem? (i := 4) rfl) (List.mem_of_getElem? (i := 5) rfl) hbL_sizeOf_X11_sizeOf gdX11_sizeOf) (Nat.le_trans (by decide : 7 + 1 ≤ 8) hd) (by decide) hl0A.1 (fun cy => wAt_11 cy _ hl0A.2) rfl ⟨by decide, by decide, by decide +kernel⟩ rfl rfl (Nat.le_of_ble_eq_true rfl) hk4 hn5 dL_sizeOf_2 (fun E6 S7 hx => ?_) (fun v' S2 hp => ?_)
  · obtain ⟨hx, hWS7, hXS7⟩ := hx
    rcases wkIf hx with ⟨cE, h⟩ | ⟨-, hx⟩
    · subst cE
      refine ⟨[], [], 0, 6, 7, 28, rfl, (fun _ h => absurd h List.not_mem_nil), rfl, by decide, (List.mem_of_getElem? (i := 6) rfl), by decide +kernel, fun q8 => ?_⟩
      refine wk_astore_n C (lv' := [some (.ref l0A), some (.int l1I), some (.ref q8)]) dL_sizeOf_7 rfl (by decide) rfl ?_
      refine wk_ldc2 C (v := (-4000000000000000001)) (List.mem_of_getElem? (i := 1) rfl) dL_sizeOf_8 ?_
      exact E _ _ _ _ _ _ hk4 hn5 dL_sizeOf_11 ⟨(-4000000000000000001 : Int64), rfl, h, hWS7, (wkExt.tr hE hXS7)⟩
    · exact hx.elim
  obtain ⟨v1, rfl, h, hWS2, hXS2⟩ := hp
  refine wk_i2l C dL_sizeOf_5 rfl ?_
  exact E _ _ _ _ _ _ hk4 hn5 dL_sizeOf_6 ⟨(Int32.toInt64 v1), rfl, h, hWS2, (wkExt.tr hE hXS2)⟩
def wvL_items : List Cond := .codeWith yL_items cL_items 3 (some .long) [(0, 6, 7, 28)] :: (([.constantLong RL 18 (-4000000000000000001), .methodLink RL 79 yX11_items, .instanceMethod yX11_items, .selects RX11 yX11_items yX11_items, .initialized RX11, .classLink RL 28 "java/lang/IndexOutOfBoundsException"] : List Cond) ++ (([]) ++ (wvX11_items)))
theorem hbL_items_X11_items : ∀ w ∈ wvX11_items, w ∈ wvL_items := fun w h => List.mem_cons_of_mem _ (List.mem_append_right _ (List.mem_append_right _ h))
theorem gdL_items : ∀ w ∈ wvL_items, wkGd w := wkGdC rfl (wkGdA (wkGdL (by decide +kernel)) (wkGdA (fun _ h => absurd h List.not_mem_nil) gdX11_items))
def rL_items (G : wkG) (F : Nat) (k n : Nat) (l0A : Nat) (l1I : Int32) (S : wPS) (Φ : (Int64 → wPS → Prop)) : Prop :=
  ∃ k4 n5 : Nat, 0 + k4 ≤ k ∧ 0 + n5 ≤ n ∧ rX11_items F k4 n5 l0A l1I S (fun v1 S2 => Φ (Int32.toInt64 v1) S2) (fun E6 S7 => if E6 = "java/lang/IndexOutOfBoundsException" then (Φ (-4000000000000000001 : Int64) S7) else False)
set_option maxHeartbeats 4000000 in
set_option maxRecDepth 100000 in
theorem tL_items {l : Launch} {g : wkG} {F : Nat} {k n : Nat}  {S : wPS} {l0A : Nat} {l1I : Int32} {Φ : (Int64 → wPS → Prop)} (hcs : wkCast g) (hex : wkExA g) (hlt : l.stackTraces = false) (hW : wkWF S) (hl0A : wkIs S l0A 11) (h : rL_items g F k n l0A l1I S Φ) : wkMet l g yL_items wvL_items 8 k n [.ref l0A, .int l1I] S (fun v' S'' => ∃ v : Int64, v' = some (.long v) ∧ Φ v S'' ∧ wkWF S'' ∧ wkExt S S'') := by
  refine wkMet_ofT (ret := (some .long)) (plainFor_of_name (by decide)) rfl (Nat.le_of_ble_eq_true rfl) (fun X hg C hR hT E => ?_)
  subst hg
  have hE : wkExt S S := wkExt.rf
  have hd : 8 ≤ 8 := Nat.le_refl _
  show wkGo l X 3 0 0 0 S [some (.ref l0A), some (.int l1I), none] []
  unfold rL_items at h
  refine wk_aload_n C dL_items_0 rfl rfl ?_
  refine wk_iload_n C dL_items_1 rfl rfl ?_
  obtain ⟨k4, n5, hk4, hn5, h⟩ := h
  refine wk_callVH C hT hcs hR (As := [.int l1I]) (cnt := 1) (tX11_items (l := l) hex hlt hW hl0A h) rfl (wkGoodV (List.mem_of_getElem? (i := 2) rfl) (List.mem_of_getElem? (i := 3) rfl) (List.mem_of_getElem? (i := 4) rfl) (List.mem_of_getElem? (i := 5) rfl) hbL_items_X11_items gdX11_items) (Nat.le_trans (by decide : 7 + 1 ≤ 8) hd) (by decide) hl0A.1 (fun cy => wAt_11 cy _ hl0A.2) rfl ⟨by decide, by decide, by decide +kernel⟩ rfl rfl (Nat.le_of_ble_eq_true rfl) hk4 hn5 dL_items_2 (fun E6 S7 hx => ?_) (fun v' S2 hp => ?_)
  · obtain ⟨hx, hWS7, hXS7⟩ := hx
    rcases wkIf hx with ⟨cE, h⟩ | ⟨-, hx⟩
    · subst cE
      refine ⟨[], [], 0, 6, 7, 28, rfl, (fun _ h => absurd h List.not_mem_nil), rfl, by decide, (List.mem_of_getElem? (i := 6) rfl), by decide +kernel, fun q8 => ?_⟩
      refine wk_astore_n C (lv' := [some (.ref l0A), some (.int l1I), some (.ref q8)]) dL_items_7 rfl (by decide) rfl ?_
      refine wk_ldc2 C (v := (-4000000000000000001)) (List.mem_of_getElem? (i := 1) rfl) dL_items_8 ?_
      exact E _ _ _ _ _ _ hk4 hn5 dL_items_11 ⟨(-4000000000000000001 : Int64), rfl, h, hWS7, (wkExt.tr hE hXS7)⟩
    · exact hx.elim
  obtain ⟨v1, rfl, h, hWS2, hXS2⟩ := hp
  refine wk_i2l C dL_items_5 rfl ?_
  exact E _ _ _ _ _ _ hk4 hn5 dL_items_6 ⟨(Int32.toInt64 v1), rfl, h, hWS2, (wkExt.tr hE hXS2)⟩
def wvL_item : List Cond := .codeWith yL_item cL_item 5 (some .long) [(0, 8, 9, 28), (0, 8, 15, 40), (0, 8, 21, 14)] :: (([.constantLong RL 18 (-4000000000000000001), .constantLong RL 22 (-4000000000000000002), .constantLong RL 32 (-4000000000000000003), .methodLink RL 82 yX11_item, .instanceMethod yX11_item, .selects RX11 yX11_item yX11_item, .initialized RX11, .classLink RL 28 "java/lang/IndexOutOfBoundsException", .classLink RL 40 "java/util/NoSuchElementException", .classLink RL 14 "java/lang/IllegalArgumentException"] : List Cond) ++ (([]) ++ (wvX11_item)))
theorem hbL_item_X11_item : ∀ w ∈ wvX11_item, w ∈ wvL_item := fun w h => List.mem_cons_of_mem _ (List.mem_append_right _ (List.mem_append_right _ h))
theorem gdL_item : ∀ w ∈ wvL_item, wkGd w := wkGdC rfl (wkGdA (wkGdL (by decide +kernel)) (wkGdA (fun _ h => absurd h List.not_mem_nil) gdX11_item))
def rL_item (G : wkG) (F : Nat) (k n : Nat) (l0A : Nat) (l1I : Int32) (l2I : Int32) (l3I : Int32) (S : wPS) (Φ : (Int64 → wPS → Prop)) : Prop :=
  ∃ k4 n5 : Nat, 0 + k4 ≤ k ∧ 0 + n5 ≤ n ∧ rX11_item F k4 n5 l0A l1I l2I l3I S (fun v1 S2 => Φ (Int32.toInt64 v1) S2) (fun E6 S7 => if E6 = "java/lang/IndexOutOfBoundsException" then (Φ (-4000000000000000001 : Int64) S7) else if E6 = "java/util/NoSuchElementException" then (Φ (-4000000000000000002 : Int64) S7) else if E6 = "java/lang/IllegalArgumentException" then (Φ (-4000000000000000003 : Int64) S7) else False)
set_option maxHeartbeats 4000000 in
set_option maxRecDepth 100000 in
theorem tL_item {l : Launch} {g : wkG} {F : Nat} {k n : Nat}  {S : wPS} {l0A : Nat} {l1I : Int32} {l2I : Int32} {l3I : Int32} {Φ : (Int64 → wPS → Prop)} (hcs : wkCast g) (hex : wkExA g) (hlt : l.stackTraces = false) (hW : wkWF S) (hl0A : wkIs S l0A 11) (h : rL_item g F k n l0A l1I l2I l3I S Φ) : wkMet l g yL_item wvL_item 8 k n [.ref l0A, .int l1I, .int l2I, .int l3I] S (fun v' S'' => ∃ v : Int64, v' = some (.long v) ∧ Φ v S'' ∧ wkWF S'' ∧ wkExt S S'') := by
  refine wkMet_ofT (ret := (some .long)) (plainFor_of_name (by decide)) rfl (Nat.le_of_ble_eq_true rfl) (fun X hg C hR hT E => ?_)
  subst hg
  have hE : wkExt S S := wkExt.rf
  have hd : 8 ≤ 8 := Nat.le_refl _
  show wkGo l X 5 0 0 0 S [some (.ref l0A), some (.int l1I), some (.int l2I), some (.int l3I), none] []
  unfold rL_item at h
  refine wk_aload_n C dL_item_0 rfl rfl ?_
  refine wk_iload_n C dL_item_1 rfl rfl ?_
  refine wk_iload_n C dL_item_2 rfl rfl ?_
  refine wk_iload_n C dL_item_3 rfl rfl ?_
  obtain ⟨k4, n5, hk4, hn5, h⟩ := h
  refine wk_callVH C hT hcs hR (As := [.int l1I, .int l2I, .int l3I]) (cnt := 3) (tX11_item (l := l) hex hlt hW hl0A h) rfl (wkGoodV (List.mem_of_getElem? (i := 4) rfl) (List.mem_of_getElem? (i := 5) rfl) (List.mem_of_getElem? (i := 6) rfl) (List.mem_of_getElem? (i := 7) rfl) hbL_item_X11_item gdX11_item) (Nat.le_trans (by decide : 7 + 1 ≤ 8) hd) (by decide) hl0A.1 (fun cy => wAt_11 cy _ hl0A.2) rfl ⟨by decide, by decide, by decide +kernel⟩ rfl rfl (Nat.le_of_ble_eq_true rfl) hk4 hn5 dL_item_4 (fun E6 S7 hx => ?_) (fun v' S2 hp => ?_)
  · obtain ⟨hx, hWS7, hXS7⟩ := hx
    rcases wkIf hx with ⟨cE, h⟩ | ⟨-, hx⟩
    · subst cE
      refine ⟨[], [(0, 8, 15, 40), (0, 8, 21, 14)], 0, 8, 9, 28, rfl, (fun _ h => absurd h List.not_mem_nil), rfl, by decide, (List.mem_of_getElem? (i := 8) rfl), by decide +kernel, fun q8 => ?_⟩
      refine wk_astore C (lv' := [some (.ref l0A), some (.int l1I), some (.int l2I), some (.int l3I), some (.ref q8)]) dL_item_9 (by decide) rfl ?_
      refine wk_ldc2 C (v := (-4000000000000000001)) (List.mem_of_getElem? (i := 1) rfl) dL_item_11 ?_
      exact E _ _ _ _ _ _ hk4 hn5 dL_item_14 ⟨(-4000000000000000001 : Int64), rfl, h, hWS7, (wkExt.tr hE hXS7)⟩
    · skip
      rcases wkIf hx with ⟨cE, h⟩ | ⟨-, hx⟩
      · subst cE
        refine ⟨[(0, 8, 9, 28)], [(0, 8, 21, 14)], 0, 8, 15, 40, rfl, (List.forall_mem_cons.mpr ⟨⟨by decide, "java/lang/IndexOutOfBoundsException", (List.mem_of_getElem? (i := 8) rfl), by decide +kernel⟩, (fun _ h => absurd h List.not_mem_nil)⟩), rfl, by decide, (List.mem_of_getElem? (i := 9) rfl), by decide +kernel, fun q9 => ?_⟩
        refine wk_astore C (lv' := [some (.ref l0A), some (.int l1I), some (.int l2I), some (.int l3I), some (.ref q9)]) dL_item_15 (by decide) rfl ?_
        refine wk_ldc2 C (v := (-4000000000000000002)) (List.mem_of_getElem? (i := 2) rfl) dL_item_17 ?_
        exact E _ _ _ _ _ _ hk4 hn5 dL_item_20 ⟨(-4000000000000000002 : Int64), rfl, h, hWS7, (wkExt.tr hE hXS7)⟩
      · skip
        rcases wkIf hx with ⟨cE, h⟩ | ⟨-, hx⟩
        · subst cE
          refine ⟨[(0, 8, 9, 28), (0, 8, 15, 40)], [], 0, 8, 21, 14, rfl, (List.forall_mem_cons.mpr ⟨⟨by decide, "java/lang/IndexOutOfBoundsException", (List.mem_of_getElem? (i := 8) rfl), by decide +kernel⟩, (List.forall_mem_cons.mpr ⟨⟨by decide, "java/util/NoSuchElementException", (List.mem_of_getElem? (i := 9) rfl), by decide +kernel⟩, (fun _ h => absurd h List.not_mem_nil)⟩)⟩), rfl, by decide, (List.mem_of_getElem? (i := 10) rfl), by decide +kernel, fun q10 => ?_⟩
          refine wk_astore C (lv' := [some (.ref l0A), some (.int l1I), some (.int l2I), some (.int l3I), some (.ref q10)]) dL_item_21 (by decide) rfl ?_
          refine wk_ldc2 C (v := (-4000000000000000003)) (List.mem_of_getElem? (i := 3) rfl) dL_item_23 ?_
          exact E _ _ _ _ _ _ hk4 hn5 dL_item_26 ⟨(-4000000000000000003 : Int64), rfl, h, hWS7, (wkExt.tr hE hXS7)⟩
        · exact hx.elim
  obtain ⟨v1, rfl, h, hWS2, hXS2⟩ := hp
  refine wk_i2l C dL_item_7 rfl ?_
  exact E _ _ _ _ _ _ hk4 hn5 dL_item_8 ⟨(Int32.toInt64 v1), rfl, h, hWS2, (wkExt.tr hE hXS2)⟩
def wvL_cameFrom : List Cond := .codeWith yL_cameFrom cL_cameFrom 3 (some .long) [(0, 6, 7, 28), (0, 6, 12, 40)] :: (([.constantLong RL 18 (-4000000000000000001), .constantLong RL 22 (-4000000000000000002), .methodLink RL 85 yX11_cameFrom, .instanceMethod yX11_cameFrom, .selects RX11 yX11_cameFrom yX11_cameFrom, .initialized RX11, .classLink RL 28 "java/lang/IndexOutOfBoundsException", .classLink RL 40 "java/util/NoSuchElementException"] : List Cond) ++ (([]) ++ (wvX11_cameFrom)))
theorem hbL_cameFrom_X11_cameFrom : ∀ w ∈ wvX11_cameFrom, w ∈ wvL_cameFrom := fun w h => List.mem_cons_of_mem _ (List.mem_append_right _ (List.mem_append_right _ h))
theorem gdL_cameFrom : ∀ w ∈ wvL_cameFrom, wkGd w := wkGdC rfl (wkGdA (wkGdL (by decide +kernel)) (wkGdA (fun _ h => absurd h List.not_mem_nil) gdX11_cameFrom))
def rL_cameFrom (G : wkG) (F : Nat) (k n : Nat) (l0A : Nat) (l1I : Int32) (S : wPS) (Φ : (Int64 → wPS → Prop)) : Prop :=
  ∃ k4 n5 : Nat, 0 + k4 ≤ k ∧ 0 + n5 ≤ n ∧ rX11_cameFrom F k4 n5 l0A l1I S (fun v1 S2 => Φ (Int32.toInt64 v1) S2) (fun E6 S7 => if E6 = "java/lang/IndexOutOfBoundsException" then (Φ (-4000000000000000001 : Int64) S7) else if E6 = "java/util/NoSuchElementException" then (Φ (-4000000000000000002 : Int64) S7) else False)
set_option maxHeartbeats 4000000 in
set_option maxRecDepth 100000 in
theorem tL_cameFrom {l : Launch} {g : wkG} {F : Nat} {k n : Nat}  {S : wPS} {l0A : Nat} {l1I : Int32} {Φ : (Int64 → wPS → Prop)} (hcs : wkCast g) (hex : wkExA g) (hlt : l.stackTraces = false) (hW : wkWF S) (hl0A : wkIs S l0A 11) (h : rL_cameFrom g F k n l0A l1I S Φ) : wkMet l g yL_cameFrom wvL_cameFrom 8 k n [.ref l0A, .int l1I] S (fun v' S'' => ∃ v : Int64, v' = some (.long v) ∧ Φ v S'' ∧ wkWF S'' ∧ wkExt S S'') := by
  refine wkMet_ofT (ret := (some .long)) (plainFor_of_name (by decide)) rfl (Nat.le_of_ble_eq_true rfl) (fun X hg C hR hT E => ?_)
  subst hg
  have hE : wkExt S S := wkExt.rf
  have hd : 8 ≤ 8 := Nat.le_refl _
  show wkGo l X 3 0 0 0 S [some (.ref l0A), some (.int l1I), none] []
  unfold rL_cameFrom at h
  refine wk_aload_n C dL_cameFrom_0 rfl rfl ?_
  refine wk_iload_n C dL_cameFrom_1 rfl rfl ?_
  obtain ⟨k4, n5, hk4, hn5, h⟩ := h
  refine wk_callVH C hT hcs hR (As := [.int l1I]) (cnt := 1) (tX11_cameFrom (l := l) hex hlt hW hl0A h) rfl (wkGoodV (List.mem_of_getElem? (i := 3) rfl) (List.mem_of_getElem? (i := 4) rfl) (List.mem_of_getElem? (i := 5) rfl) (List.mem_of_getElem? (i := 6) rfl) hbL_cameFrom_X11_cameFrom gdX11_cameFrom) (Nat.le_trans (by decide : 7 + 1 ≤ 8) hd) (by decide) hl0A.1 (fun cy => wAt_11 cy _ hl0A.2) rfl ⟨by decide, by decide, by decide +kernel⟩ rfl rfl (Nat.le_of_ble_eq_true rfl) hk4 hn5 dL_cameFrom_2 (fun E6 S7 hx => ?_) (fun v' S2 hp => ?_)
  · obtain ⟨hx, hWS7, hXS7⟩ := hx
    rcases wkIf hx with ⟨cE, h⟩ | ⟨-, hx⟩
    · subst cE
      refine ⟨[], [(0, 6, 12, 40)], 0, 6, 7, 28, rfl, (fun _ h => absurd h List.not_mem_nil), rfl, by decide, (List.mem_of_getElem? (i := 7) rfl), by decide +kernel, fun q8 => ?_⟩
      refine wk_astore_n C (lv' := [some (.ref l0A), some (.int l1I), some (.ref q8)]) dL_cameFrom_7 rfl (by decide) rfl ?_
      refine wk_ldc2 C (v := (-4000000000000000001)) (List.mem_of_getElem? (i := 1) rfl) dL_cameFrom_8 ?_
      exact E _ _ _ _ _ _ hk4 hn5 dL_cameFrom_11 ⟨(-4000000000000000001 : Int64), rfl, h, hWS7, (wkExt.tr hE hXS7)⟩
    · skip
      rcases wkIf hx with ⟨cE, h⟩ | ⟨-, hx⟩
      · subst cE
        refine ⟨[(0, 6, 7, 28)], [], 0, 6, 12, 40, rfl, (List.forall_mem_cons.mpr ⟨⟨by decide, "java/lang/IndexOutOfBoundsException", (List.mem_of_getElem? (i := 7) rfl), by decide +kernel⟩, (fun _ h => absurd h List.not_mem_nil)⟩), rfl, by decide, (List.mem_of_getElem? (i := 8) rfl), by decide +kernel, fun q9 => ?_⟩
        refine wk_astore_n C (lv' := [some (.ref l0A), some (.int l1I), some (.ref q9)]) dL_cameFrom_12 rfl (by decide) rfl ?_
        refine wk_ldc2 C (v := (-4000000000000000002)) (List.mem_of_getElem? (i := 2) rfl) dL_cameFrom_13 ?_
        exact E _ _ _ _ _ _ hk4 hn5 dL_cameFrom_16 ⟨(-4000000000000000002 : Int64), rfl, h, hWS7, (wkExt.tr hE hXS7)⟩
      · exact hx.elim
  obtain ⟨v1, rfl, h, hWS2, hXS2⟩ := hp
  refine wk_i2l C dL_cameFrom_5 rfl ?_
  exact E _ _ _ _ _ _ hk4 hn5 dL_cameFrom_6 ⟨(Int32.toInt64 v1), rfl, h, hWS2, (wkExt.tr hE hXS2)⟩
def wvL_type : List Cond := .codeWith yL_type cL_type 3 (some .long) [(0, 6, 7, 20)] :: (([.constantLong RL 18 (-4000000000000000001), .methodLink RL 111 yX11_type, .instanceMethod yX11_type, .selects RX11 yX11_type yX11_type, .initialized RX11, .classLink RL 20 "java/lang/IllegalStateException"] : List Cond) ++ (([]) ++ (wvX11_type)))
theorem hbL_type_X11_type : ∀ w ∈ wvX11_type, w ∈ wvL_type := fun w h => List.mem_cons_of_mem _ (List.mem_append_right _ (List.mem_append_right _ h))
theorem gdL_type : ∀ w ∈ wvL_type, wkGd w := wkGdC rfl (wkGdA (wkGdL (by decide +kernel)) (wkGdA (fun _ h => absurd h List.not_mem_nil) gdX11_type))
def rL_type (G : wkG) (F : Nat) (k n : Nat) (l0A : Nat) (l1I : Int32) (S : wPS) (Φ : (Int64 → wPS → Prop)) : Prop :=
  ∃ k4 n5 : Nat, 0 + k4 ≤ k ∧ 0 + n5 ≤ n ∧ rX11_type F k4 n5 l0A l1I S (fun v1 S2 => Φ (Int32.toInt64 v1) S2) (fun E6 S7 => if E6 = "java/lang/IllegalStateException" then (Φ (-4000000000000000001 : Int64) S7) else False)
set_option maxHeartbeats 4000000 in
set_option maxRecDepth 100000 in
theorem tL_type {l : Launch} {g : wkG} {F : Nat} {k n : Nat}  {S : wPS} {l0A : Nat} {l1I : Int32} {Φ : (Int64 → wPS → Prop)} (hcs : wkCast g) (hex : wkExA g) (hlt : l.stackTraces = false) (hW : wkWF S) (hl0A : wkIs S l0A 11) (h : rL_type g F k n l0A l1I S Φ) : wkMet l g yL_type wvL_type 7 k n [.ref l0A, .int l1I] S (fun v' S'' => ∃ v : Int64, v' = some (.long v) ∧ Φ v S'' ∧ wkWF S'' ∧ wkExt S S'') := by
  refine wkMet_ofT (ret := (some .long)) (plainFor_of_name (by decide)) rfl (Nat.le_of_ble_eq_true rfl) (fun X hg C hR hT E => ?_)
  subst hg
  have hE : wkExt S S := wkExt.rf
  have hd : 7 ≤ 7 := Nat.le_refl _
  show wkGo l X 3 0 0 0 S [some (.ref l0A), some (.int l1I), none] []
  unfold rL_type at h
  refine wk_aload_n C dL_type_0 rfl rfl ?_
  refine wk_iload_n C dL_type_1 rfl rfl ?_
  obtain ⟨k4, n5, hk4, hn5, h⟩ := h
  refine wk_callVH C hT hcs hR (As := [.int l1I]) (cnt := 1) (tX11_type (l := l) hex hlt hW hl0A h) rfl (wkGoodV (List.mem_of_getElem? (i := 2) rfl) (List.mem_of_getElem? (i := 3) rfl) (List.mem_of_getElem? (i := 4) rfl) (List.mem_of_getElem? (i := 5) rfl) hbL_type_X11_type gdX11_type) (Nat.le_trans (by decide : 6 + 1 ≤ 7) hd) (by decide) hl0A.1 (fun cy => wAt_11 cy _ hl0A.2) rfl ⟨by decide, by decide, by decide +kernel⟩ rfl rfl (Nat.le_of_ble_eq_true rfl) hk4 hn5 dL_type_2 (fun E6 S7 hx => ?_) (fun v' S2 hp => ?_)
  · obtain ⟨hx, hWS7, hXS7⟩ := hx
    rcases wkIf hx with ⟨cE, h⟩ | ⟨-, hx⟩
    · subst cE
      refine ⟨[], [], 0, 6, 7, 20, rfl, (fun _ h => absurd h List.not_mem_nil), rfl, by decide, (List.mem_of_getElem? (i := 6) rfl), by decide +kernel, fun q8 => ?_⟩
      refine wk_astore_n C (lv' := [some (.ref l0A), some (.int l1I), some (.ref q8)]) dL_type_7 rfl (by decide) rfl ?_
      refine wk_ldc2 C (v := (-4000000000000000001)) (List.mem_of_getElem? (i := 1) rfl) dL_type_8 ?_
      exact E _ _ _ _ _ _ hk4 hn5 dL_type_11 ⟨(-4000000000000000001 : Int64), rfl, h, hWS7, (wkExt.tr hE hXS7)⟩
    · exact hx.elim
  obtain ⟨v1, rfl, h, hWS2, hXS2⟩ := hp
  refine wk_i2l C dL_type_5 rfl ?_
  exact E _ _ _ _ _ _ hk4 hn5 dL_type_6 ⟨(Int32.toInt64 v1), rfl, h, hWS2, (wkExt.tr hE hXS2)⟩
def wvL_alter : List Cond := .codeWith yL_alter cL_alter 4 (some .long) [(0, 7, 8, 40)] :: (([.constantLong RL 18 (-4000000000000000001), .methodLink RL 114 yX11_alter, .instanceMethod yX11_alter, .selects RX11 yX11_alter yX11_alter, .initialized RX11, .classLink RL 40 "java/util/NoSuchElementException"] : List Cond) ++ (([]) ++ (wvX11_alter)))
theorem hbL_alter_X11_alter : ∀ w ∈ wvX11_alter, w ∈ wvL_alter := fun w h => List.mem_cons_of_mem _ (List.mem_append_right _ (List.mem_append_right _ h))
theorem gdL_alter : ∀ w ∈ wvL_alter, wkGd w := wkGdC rfl (wkGdA (wkGdL (by decide +kernel)) (wkGdA (fun _ h => absurd h List.not_mem_nil) gdX11_alter))
def rL_alter (G : wkG) (F : Nat) (k n : Nat) (l0A : Nat) (l1I : Int32) (l2I : Int32) (S : wPS) (Φ : (Int64 → wPS → Prop)) : Prop :=
  ∃ k4 n5 : Nat, 0 + k4 ≤ k ∧ 0 + n5 ≤ n ∧ rX11_alter F k4 n5 l0A l1I l2I S (fun v1 S2 => Φ (Int32.toInt64 v1) S2) (fun E6 S7 => if E6 = "java/util/NoSuchElementException" then (Φ (-4000000000000000001 : Int64) S7) else False)
set_option maxHeartbeats 4000000 in
set_option maxRecDepth 100000 in
theorem tL_alter {l : Launch} {g : wkG} {F : Nat} {k n : Nat}  {S : wPS} {l0A : Nat} {l1I : Int32} {l2I : Int32} {Φ : (Int64 → wPS → Prop)} (hcs : wkCast g) (hex : wkExA g) (hlt : l.stackTraces = false) (hW : wkWF S) (hl0A : wkIs S l0A 11) (h : rL_alter g F k n l0A l1I l2I S Φ) : wkMet l g yL_alter wvL_alter 8 k n [.ref l0A, .int l1I, .int l2I] S (fun v' S'' => ∃ v : Int64, v' = some (.long v) ∧ Φ v S'' ∧ wkWF S'' ∧ wkExt S S'') := by
  refine wkMet_ofT (ret := (some .long)) (plainFor_of_name (by decide)) rfl (Nat.le_of_ble_eq_true rfl) (fun X hg C hR hT E => ?_)
  subst hg
  have hE : wkExt S S := wkExt.rf
  have hd : 8 ≤ 8 := Nat.le_refl _
  show wkGo l X 4 0 0 0 S [some (.ref l0A), some (.int l1I), some (.int l2I), none] []
  unfold rL_alter at h
  refine wk_aload_n C dL_alter_0 rfl rfl ?_
  refine wk_iload_n C dL_alter_1 rfl rfl ?_
  refine wk_iload_n C dL_alter_2 rfl rfl ?_
  obtain ⟨k4, n5, hk4, hn5, h⟩ := h
  refine wk_callVH C hT hcs hR (As := [.int l1I, .int l2I]) (cnt := 2) (tX11_alter (l := l) hex hlt hW hl0A h) rfl (wkGoodV (List.mem_of_getElem? (i := 2) rfl) (List.mem_of_getElem? (i := 3) rfl) (List.mem_of_getElem? (i := 4) rfl) (List.mem_of_getElem? (i := 5) rfl) hbL_alter_X11_alter gdX11_alter) (Nat.le_trans (by decide : 7 + 1 ≤ 8) hd) (by decide) hl0A.1 (fun cy => wAt_11 cy _ hl0A.2) rfl ⟨by decide, by decide, by decide +kernel⟩ rfl rfl (Nat.le_of_ble_eq_true rfl) hk4 hn5 dL_alter_3 (fun E6 S7 hx => ?_) (fun v' S2 hp => ?_)
  · obtain ⟨hx, hWS7, hXS7⟩ := hx
    rcases wkIf hx with ⟨cE, h⟩ | ⟨-, hx⟩
    · subst cE
      refine ⟨[], [], 0, 7, 8, 40, rfl, (fun _ h => absurd h List.not_mem_nil), rfl, by decide, (List.mem_of_getElem? (i := 6) rfl), by decide +kernel, fun q8 => ?_⟩
      refine wk_astore_n C (lv' := [some (.ref l0A), some (.int l1I), some (.int l2I), some (.ref q8)]) dL_alter_8 rfl (by decide) rfl ?_
      refine wk_ldc2 C (v := (-4000000000000000001)) (List.mem_of_getElem? (i := 1) rfl) dL_alter_9 ?_
      exact E _ _ _ _ _ _ hk4 hn5 dL_alter_12 ⟨(-4000000000000000001 : Int64), rfl, h, hWS7, (wkExt.tr hE hXS7)⟩
    · exact hx.elim
  obtain ⟨v1, rfl, h, hWS2, hXS2⟩ := hp
  refine wk_i2l C dL_alter_6 rfl ?_
  exact E _ _ _ _ _ _ hk4 hn5 dL_alter_7 ⟨(Int32.toInt64 v1), rfl, h, hWS2, (wkExt.tr hE hXS2)⟩
def wvL_undo : List Cond := .codeWith yL_undo cL_undo 2 (some .long) [(0, 5, 6, 40)] :: (([.constantLong RL 18 (-4000000000000000001), .methodLink RL 61 yX11_undo, .instanceMethod yX11_undo, .selects RX11 yX11_undo yX11_undo, .initialized RX11, .classLink RL 40 "java/util/NoSuchElementException"] : List Cond) ++ (([]) ++ (wvX11_undo)))
theorem hbL_undo_X11_undo : ∀ w ∈ wvX11_undo, w ∈ wvL_undo := fun w h => List.mem_cons_of_mem _ (List.mem_append_right _ (List.mem_append_right _ h))
theorem gdL_undo : ∀ w ∈ wvL_undo, wkGd w := wkGdC rfl (wkGdA (wkGdL (by decide +kernel)) (wkGdA (fun _ h => absurd h List.not_mem_nil) gdX11_undo))
def rL_undo (G : wkG) (F : Nat) (k n : Nat) (l0A : Nat) (S : wPS) (Φ : (Int64 → wPS → Prop)) : Prop :=
  ∃ k4 n5 : Nat, 0 + k4 ≤ k ∧ 0 + n5 ≤ n ∧ rX11_undo F k4 n5 l0A S (fun v1 S2 => Φ (Int32.toInt64 v1) S2) (fun E6 S7 => if E6 = "java/util/NoSuchElementException" then (Φ (-4000000000000000001 : Int64) S7) else False)
set_option maxHeartbeats 4000000 in
set_option maxRecDepth 100000 in
theorem tL_undo {l : Launch} {g : wkG} {F : Nat} {k n : Nat}  {S : wPS} {l0A : Nat} {Φ : (Int64 → wPS → Prop)} (hcs : wkCast g) (hex : wkExA g) (hlt : l.stackTraces = false) (hW : wkWF S) (hl0A : wkIs S l0A 11) (h : rL_undo g F k n l0A S Φ) : wkMet l g yL_undo wvL_undo 7 k n [.ref l0A] S (fun v' S'' => ∃ v : Int64, v' = some (.long v) ∧ Φ v S'' ∧ wkWF S'' ∧ wkExt S S'') := by
  refine wkMet_ofT (ret := (some .long)) (plainFor_of_name (by decide)) rfl (Nat.le_of_ble_eq_true rfl) (fun X hg C hR hT E => ?_)
  subst hg
  have hE : wkExt S S := wkExt.rf
  have hd : 7 ≤ 7 := Nat.le_refl _
  show wkGo l X 2 0 0 0 S [some (.ref l0A), none] []
  unfold rL_undo at h
  refine wk_aload_n C dL_undo_0 rfl rfl ?_
  obtain ⟨k4, n5, hk4, hn5, h⟩ := h
  refine wk_callVH C hT hcs hR (As := []) (cnt := 0) (tX11_undo (l := l) hex hlt hW hl0A h) rfl (wkGoodV (List.mem_of_getElem? (i := 2) rfl) (List.mem_of_getElem? (i := 3) rfl) (List.mem_of_getElem? (i := 4) rfl) (List.mem_of_getElem? (i := 5) rfl) hbL_undo_X11_undo gdX11_undo) (Nat.le_trans (by decide : 6 + 1 ≤ 7) hd) (by decide) hl0A.1 (fun cy => wAt_11 cy _ hl0A.2) rfl ⟨by decide, by decide, by decide +kernel⟩ rfl rfl (Nat.le_of_ble_eq_true rfl) hk4 hn5 dL_undo_1 (fun E6 S7 hx => ?_) (fun v' S2 hp => ?_)
  · obtain ⟨hx, hWS7, hXS7⟩ := hx
    rcases wkIf hx with ⟨cE, h⟩ | ⟨-, hx⟩
    · subst cE
      refine ⟨[], [], 0, 5, 6, 40, rfl, (fun _ h => absurd h List.not_mem_nil), rfl, by decide, (List.mem_of_getElem? (i := 6) rfl), by decide +kernel, fun q8 => ?_⟩
      refine wk_astore_n C (lv' := [some (.ref l0A), some (.ref q8)]) dL_undo_6 rfl (by decide) rfl ?_
      refine wk_ldc2 C (v := (-4000000000000000001)) (List.mem_of_getElem? (i := 1) rfl) dL_undo_7 ?_
      exact E _ _ _ _ _ _ hk4 hn5 dL_undo_10 ⟨(-4000000000000000001 : Int64), rfl, h, hWS7, (wkExt.tr hE hXS7)⟩
    · exact hx.elim
  obtain ⟨v1, rfl, h, hWS2, hXS2⟩ := hp
  refine wk_i2l C dL_undo_4 rfl ?_
  exact E _ _ _ _ _ _ hk4 hn5 dL_undo_5 ⟨(Int32.toInt64 v1), rfl, h, hWS2, (wkExt.tr hE hXS2)⟩
