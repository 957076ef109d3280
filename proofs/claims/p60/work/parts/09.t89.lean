def wvX11_setBound : List Cond := .code yX11_setBound cX11_setBound 5 (some .int) :: (([.methodLink RX11 144 yX11_refreshed, .instanceMethod yX11_refreshed, .selects RX11 yX11_refreshed yX11_refreshed, .initialized RX11, .fieldLink RX11 147 "Witnessworks$Entry" "kind" "I", .methodLink RX11 76 yX11_canHaveBound, .static yX11_canHaveBound, .methodLink RX11 99 yX11_remember, .instanceMethod yX11_remember, .selects RX11 yX11_remember yX11_remember, .fieldLink RX11 152 "Witnessworks$Entry" "boundNow" "I", .fieldLink RX11 155 "Witnessworks$Entry" "bound" "I", .fieldLink RX11 158 "Witnessworks$Entry" "leaning" "I"] : List Cond) ++ ((wsX30) ++ (wvX11_refreshed ++ (wvX11_canHaveBound ++ (wvX11_remember)))))
theorem huX11_setBound_3 : ∀ w ∈ u_ws RX3 TX3 17, w ∈ wvX11_setBound := fun w h => List.mem_cons_of_mem _ (List.mem_append_right _ (List.mem_append_left _ h))
theorem hbX11_setBound_X11_refreshed : ∀ w ∈ wvX11_refreshed, w ∈ wvX11_setBound := fun w h => List.mem_cons_of_mem _ (List.mem_append_right _ (List.mem_append_right _ (List.mem_append_left _ h)))
theorem hbX11_setBound_X11_canHaveBound : ∀ w ∈ wvX11_canHaveBound, w ∈ wvX11_setBound := fun w h => List.mem_cons_of_mem _ (List.mem_append_right _ (List.mem_append_right _ (List.mem_append_right _ (List.mem_append_left _ h))))
theorem hbX11_setBound_X11_remember : ∀ w ∈ wvX11_remember, w ∈ wvX11_setBound := fun w h => List.mem_cons_of_mem _ (List.mem_append_right _ (List.mem_append_right _ (List.mem_append_right _ (List.mem_append_right _ h))))
theorem gdX11_setBound : ∀ w ∈ wvX11_setBound, wkGd w := wkGdC rfl (wkGdA (wkGdL (by decide +kernel)) (wkGdA gdX3 (wkGdA gdX11_refreshed (wkGdA gdX11_canHaveBound gdX11_remember))))
def rX11_setBound (F : Nat) (k n : Nat) (l0A : Nat) (l1I : Int32) (l2I : Int32) (S : wPS) (Φ : (Int32 → wPS → Prop)) (Ψ : String → wPS → Prop) : Prop :=
  ∃ k4 n5 : Nat, 0 + k4 ≤ k ∧ 0 + n5 ≤ n ∧ rX11_refreshed F k4 n5 l0A l1I S (fun v1 S2 => rX11_canHaveBound F (gEntry_kind S2 v1) l2I S2 fun v6 S7 => if v6 = 0 then ((0 + k4) + 1 ≤ k ∧ (0 + n5) + 6 ≤ n ∧ Ψ "java/lang/IllegalArgumentException" S7) else (rX11_remember F l0A (98 : Int32) l1I S7 fun v12 S13 => wkLt ((gEntry_boundNow S13 v1)) fun x17 => wkLt (wu_Entry_bound S13 v1 l2I) fun S18 => wkLt (wu_Entry_leaning S18 v1 (-1 : Int32)) fun S19 => Φ x17 S19)) Ψ
set_option maxHeartbeats 4000000 in
set_option maxRecDepth 100000 in
theorem tX11_setBound {l : Launch} {g : wkG} {F : Nat} {k n : Nat}  {S : wPS} {l0A : Nat} {l1I : Int32} {l2I : Int32} {Φ : (Int32 → wPS → Prop)} {Ψ : String → wPS → Prop} (hst : wkSta g) (hex : wkExA g) (hlt : l.stackTraces = false) (hW : wkWF S) (hl0A : wkIs S l0A 11) (h : rX11_setBound F k n l0A l1I l2I S Φ Ψ) : wkMetX l g yX11_setBound wvX11_setBound 56 k n [.ref l0A, .int l1I, .int l2I] S (fun v' S'' => ∃ v : Int32, v' = some (.int v) ∧ Φ v S'' ∧ wkWF S'' ∧ wkExt S S'') (fun E S'' => Ψ E S'' ∧ wkWF S'' ∧ wkExt S S'') := by
  refine wkMetX_of (ret := (some .int)) (by decide) rfl (Nat.le_of_ble_eq_true rfl) rfl hex hlt (by decide) (fun X hg C hR E EX ET => ?_)
  subst hg
  have hE : wkExt S S := wkExt.rf
  have hd : 56 ≤ 56 := Nat.le_refl _
  show wkGo l X 5 0 0 0 S [some (.ref l0A), some (.int l1I), some (.int l2I), none, none] []
  unfold rX11_setBound at h
  refine wk_aload_n C dX11_setBound_0 rfl rfl ?_
  refine wk_iload_n C dX11_setBound_1 rfl rfl ?_
  obtain ⟨k4, n5, hk4, hn5, h⟩ := h
  refine wk_callVX C hR EX (As := [.int l1I]) (cnt := 1) (tX11_refreshed (l := l) hst hex hlt hW hl0A h) rfl (wkGoodV (List.mem_of_getElem? (i := 1) rfl) (List.mem_of_getElem? (i := 2) rfl) (List.mem_of_getElem? (i := 3) rfl) (List.mem_of_getElem? (i := 4) rfl) hbX11_setBound_X11_refreshed gdX11_refreshed) (Nat.le_trans (by decide : 55 + 1 ≤ 56) hd) (by decide) hl0A.1 (fun cy => wAt_11 cy _ hl0A.2) rfl ⟨by decide, by decide, by decide +kernel⟩ rfl rfl (Nat.le_of_ble_eq_true rfl) hk4 hn5 dX11_setBound_2 (fun E S' q => ⟨q.1, q.2.1, wkExt.tr hE q.2.2⟩) (fun v' S2 hp => ?_)
  obtain ⟨v1, rfl, h, hWS2, hXS2, hIS2⟩ := hp
  refine wk_astore_n C (lv' := [some (.ref l0A), some (.int l1I), some (.int l2I), some (.ref v1), none]) dX11_setBound_5 rfl (by decide) rfl ?_
  refine wk_aload_n C dX11_setBound_6 rfl rfl ?_
  refine wk_get C (v := .int (gEntry_kind S2 v1)) huX11_setBound_3 hIS2.1 (fun cy => wAt_3 cy _ hIS2.2) rfl 0 (by decide) (List.mem_of_getElem? (i := 5) rfl) rfl rfl dX11_setBound_7 ?_
  refine wk_iload_n C dX11_setBound_10 rfl rfl ?_
  refine wk_callW C hR (As := [.int (gEntry_kind S2 v1), .int l2I]) (cnt := 2) (tX11_canHaveBound (l := l) hst hWS2  h) rfl (wkGoodW (List.mem_of_getElem? (i := 6) rfl) (List.mem_of_getElem? (i := 7) rfl) (List.mem_of_getElem? (i := 4) rfl) hbX11_setBound_X11_canHaveBound gdX11_canHaveBound) (Nat.le_trans (by decide : 0 + 1 ≤ 56) hd) (by decide) ⟨by decide, by decide, by decide +kernel⟩ rfl rfl (Nat.le_of_ble_eq_true rfl) hk4 hn5 dX11_setBound_11 (fun v' S7 hp => ?_)
  obtain ⟨v6, rfl, h, hWS7, hXS7⟩ := hp
  refine wk_if_ne C (tgt := 27) dX11_setBound_14 (by decide) (fun c11 => ?_) (fun c11 => ?_)
  · rw [if_neg c11] at h
    refine wk_aload_n C dX11_setBound_27 rfl rfl ?_
    refine wk_bipush C (v := 98) dX11_setBound_28 (by decide) ?_
    refine wk_iload_n C dX11_setBound_30 rfl rfl ?_
    refine wk_callV C hR (As := [.int (98 : Int32), .int l1I]) (cnt := 2) (tX11_remember (l := l) hWS7 (hXS7 _ _ (hXS2 _ _ hl0A)) h) rfl (wkGoodV (List.mem_of_getElem? (i := 8) rfl) (List.mem_of_getElem? (i := 9) rfl) (List.mem_of_getElem? (i := 10) rfl) (List.mem_of_getElem? (i := 4) rfl) hbX11_setBound_X11_remember gdX11_remember) (Nat.le_trans (by decide : 2 + 1 ≤ 56) hd) (by decide) (hXS7 _ _ (hXS2 _ _ hl0A)).1 (fun cy => wAt_11 cy _ (hXS7 _ _ (hXS2 _ _ hl0A)).2) rfl ⟨by decide, by decide, by decide +kernel⟩ rfl rfl (Nat.le_of_ble_eq_true rfl) hk4 hn5 dX11_setBound_31 (fun v' S13 hp => ?_)
    obtain ⟨v12, rfl, h, hWS13, hXS13⟩ := hp
    refine wk_aload_n C dX11_setBound_34 rfl rfl ?_
    refine wk_get C (v := .int (gEntry_boundNow S13 v1)) huX11_setBound_3 (hXS13 _ _ (hXS7 _ _ hIS2)).1 (fun cy => wAt_3 cy _ (hXS13 _ _ (hXS7 _ _ hIS2)).2) rfl 8 (by decide) (List.mem_of_getElem? (i := 11) rfl) rfl rfl dX11_setBound_35 ?_
    obtain ⟨x17, ex17, h⟩ := wkLt_some h
    refine wk_topi ex17 ?_
    refine wk_istore C (lv' := [some (.ref l0A), some (.int l1I), some (.int l2I), some (.ref v1), some (.int x17)]) dX11_setBound_38 (by decide) rfl ?_
    refine wk_aload_n C dX11_setBound_40 rfl rfl ?_
    refine wk_iload_n C dX11_setBound_41 rfl rfl ?_
    obtain ⟨S18, eS18, h⟩ := wkLt_some h
    refine wk_put C (S' := S18) huX11_setBound_3 (hXS13 _ _ (hXS7 _ _ hIS2)).1 (fun cy => wAt_3 cy _ (hXS13 _ _ (hXS7 _ _ hIS2)).2) rfl 2 (by decide) (List.mem_of_getElem? (i := 12) rfl) rfl tyX3_ok nmX3 rfl (ty := .int) rfl rfl rfl (by show 2 < 17; decide) (fun cy b => by rw [eS18]; exact wSt_3_2 cy _ (hXS13 _ _ (hXS7 _ _ hIS2)).2 _ b) (by rw [eS18]) dX11_setBound_42 ?_
    have hWS18 : wkWF S18 := by rw [eS18]; exact hWS13
    have hXS18 : wkExt S13 S18 := by rw [eS18]; exact wkExt.rf
    refine wk_aload_n C dX11_setBound_45 rfl rfl ?_
    refine wk_iconst C (v := (-1)) dX11_setBound_46 (by decide) ?_
    obtain ⟨S19, eS19, h⟩ := wkLt_some h
    refine wk_put C (S' := S19) huX11_setBound_3 (hXS18 _ _ (hXS13 _ _ (hXS7 _ _ hIS2))).1 (fun cy => wAt_3 cy _ (hXS18 _ _ (hXS13 _ _ (hXS7 _ _ hIS2))).2) rfl 3 (by decide) (List.mem_of_getElem? (i := 13) rfl) rfl tyX3_ok nmX3 rfl (ty := .int) rfl rfl rfl (by show 3 < 17; decide) (fun cy b => by rw [eS19]; exact wSt_3_3 cy _ (hXS18 _ _ (hXS13 _ _ (hXS7 _ _ hIS2))).2 _ b) (by rw [eS19]) dX11_setBound_47 ?_
    have hWS19 : wkWF S19 := by rw [eS19]; exact hWS18
    have hXS19 : wkExt S18 S19 := by rw [eS19]; exact wkExt.rf
    refine wk_iload C dX11_setBound_50 rfl ?_
    exact E _ _ _ _ _ _ hk4 hn5 dX11_setBound_52 ⟨x17, rfl, h, hWS19, (wkExt.tr (wkExt.tr (wkExt.tr (wkExt.tr (wkExt.tr hE hXS2) hXS7) hXS13) hXS18) hXS19)⟩
  · rw [if_pos c11] at h
    obtain ⟨t20a, t20b, h⟩ := h
    exact ET _ _ _ _ _ _ (79, 150, 83, "java/lang/IllegalArgumentException", "the kind cannot have this bound") (by decide +kernel) (Nat.le_of_ble_eq_true rfl) (Or.inl ⟨dX11_setBound_17, dX11_setBound_20, dX11_setBound_21, dX11_setBound_23, dX11_setBound_26⟩) ⟨h, hWS7, (wkExt.tr (wkExt.tr hE hXS2) hXS7)⟩ t20a t20b
def wvX11_lean : List Cond := .code yX11_lean cX11_lean 5 (some .int) :: (([.methodLink RX11 103 yX11_entryAt, .instanceMethod yX11_entryAt, .selects RX11 yX11_entryAt yX11_entryAt, .initialized RX11, .methodLink RX11 163 yX11_leadsTo, .instanceMethod yX11_leadsTo, .selects RX11 yX11_leadsTo yX11_leadsTo, .methodLink RX11 99 yX11_remember, .instanceMethod yX11_remember, .selects RX11 yX11_remember yX11_remember, .fieldLink RX11 158 "Witnessworks$Entry" "leaning" "I", .fieldLink RX11 171 "Witnessworks$Entry" "plus" "I", .methodLink RX11 144 yX11_refreshed, .instanceMethod yX11_refreshed, .selects RX11 yX11_refreshed yX11_refreshed, .fieldLink RX11 152 "Witnessworks$Entry" "boundNow" "I"] : List Cond) ++ ((wsX30) ++ (wvX11_entryAt ++ (wvX11_leadsTo ++ (wvX11_remember ++ (wvX11_refreshed))))))
theorem huX11_lean_3 : ∀ w ∈ u_ws RX3 TX3 17, w ∈ wvX11_lean := fun w h => List.mem_cons_of_mem _ (List.mem_append_right _ (List.mem_append_left _ h))
theorem hbX11_lean_X11_entryAt : ∀ w ∈ wvX11_entryAt, w ∈ wvX11_lean := fun w h => List.mem_cons_of_mem _ (List.mem_append_right _ (List.mem_append_right _ (List.mem_append_left _ h)))
theorem hbX11_lean_X11_leadsTo : ∀ w ∈ wvX11_leadsTo, w ∈ wvX11_lean := fun w h => List.mem_cons_of_mem _ (List.mem_append_right _ (List.mem_append_right _ (List.mem_append_right _ (List.mem_append_left _ h))))
theorem hbX11_lean_X11_remember : ∀ w ∈ wvX11_remember, w ∈ wvX11_lean := fun w h => List.mem_cons_of_mem _ (List.mem_append_right _ (List.mem_append_right _ (List.mem_append_right _ (List.mem_append_right _ (List.mem_append_left _ h)))))
theorem hbX11_lean_X11_refreshed : ∀ w ∈ wvX11_refreshed, w ∈ wvX11_lean := fun w h => List.mem_cons_of_mem _ (List.mem_append_right _ (List.mem_append_right _ (List.mem_append_right _ (List.mem_append_right _ (List.mem_append_right _ h)))))
theorem gdX11_lean : ∀ w ∈ wvX11_lean, wkGd w := wkGdC rfl (wkGdA (wkGdL (by decide +kernel)) (wkGdA gdX3 (wkGdA gdX11_entryAt (wkGdA gdX11_leadsTo (wkGdA gdX11_remember gdX11_refreshed)))))
def rX11_lean (F : Nat) (k n : Nat) (l0A : Nat) (l1I : Int32) (l2I : Int32) (l3I : Int32) (S : wPS) (Φ : (Int32 → wPS → Prop)) (Ψ : String → wPS → Prop) : Prop :=
  ∃ k4 n5 : Nat, 0 + k4 ≤ k ∧ 0 + n5 ≤ n ∧ rX11_entryAt F k4 n5 l0A l1I S (fun v1 S2 => ∃ k9 n10 : Nat, (0 + k4) + k9 ≤ k ∧ (0 + n5) + n10 ≤ n ∧ rX11_entryAt F k9 n10 l0A l2I S2 (fun v6 S7 => if l3I < (-20 : Int32) then (((0 + k4) + k9) + 1 ≤ k ∧ ((0 + n5) + n10) + 6 ≤ n ∧ Ψ "java/lang/IllegalArgumentException" S7) else (if l3I ≤ (20 : Int32) then (rX11_leadsTo F l0A l2I l1I S7 fun v14 S15 => if v14 = 0 then (rX11_remember F l0A (108 : Int32) l1I S15 fun v20 S21 => wkLt (wu_Entry_leaning S21 v1 l2I) fun S25 => wkLt (wu_Entry_plus S25 v1 l3I) fun S26 => ∃ k30 n31 : Nat, ((0 + k4) + k9) + k30 ≤ k ∧ ((0 + n5) + n10) + n31 ≤ n ∧ rX11_refreshed F k30 n31 l0A l1I S26 (fun v27 S28 => Φ (gEntry_boundNow S28 v27) S28) Ψ) else (((0 + k4) + k9) + 1 ≤ k ∧ ((0 + n5) + n10) + 6 ≤ n ∧ Ψ "java/lang/UnsupportedOperationException" S15)) else (((0 + k4) + k9) + 1 ≤ k ∧ ((0 + n5) + n10) + 6 ≤ n ∧ Ψ "java/lang/IllegalArgumentException" S7))) Ψ) Ψ
set_option maxHeartbeats 4000000 in
set_option maxRecDepth 100000 in
theorem tX11_lean {l : Launch} {g : wkG} {F : Nat} {k n : Nat}  {S : wPS} {l0A : Nat} {l1I : Int32} {l2I : Int32} {l3I : Int32} {Φ : (Int32 → wPS → Prop)} {Ψ : String → wPS → Prop} (hst : wkSta g) (hex : wkExA g) (hlt : l.stackTraces = false) (hW : wkWF S) (hl0A : wkIs S l0A 11) (h : rX11_lean F k n l0A l1I l2I l3I S Φ Ψ) : wkMetX l g yX11_lean wvX11_lean 56 k n [.ref l0A, .int l1I, .int l2I, .int l3I] S (fun v' S'' => ∃ v : Int32, v' = some (.int v) ∧ Φ v S'' ∧ wkWF S'' ∧ wkExt S S'') (fun E S'' => Ψ E S'' ∧ wkWF S'' ∧ wkExt S S'') := by
  refine wkMetX_of (ret := (some .int)) (by decide) rfl (Nat.le_of_ble_eq_true rfl) rfl hex hlt (by decide) (fun X hg C hR E EX ET => ?_)
  subst hg
  have hE : wkExt S S := wkExt.rf
  have hd : 56 ≤ 56 := Nat.le_refl _
  show wkGo l X 5 0 0 0 S [some (.ref l0A), some (.int l1I), some (.int l2I), some (.int l3I), none] []
  unfold rX11_lean at h
  refine wk_aload_n C dX11_lean_0 rfl rfl ?_
  refine wk_iload_n C dX11_lean_1 rfl rfl ?_
  obtain ⟨k4, n5, hk4, hn5, h⟩ := h
  refine wk_callVX C hR EX (As := [.int l1I]) (cnt := 1) (tX11_entryAt (l := l) hex hlt hW hl0A h) rfl (wkGoodV (List.mem_of_getElem? (i := 1) rfl) (List.mem_of_getElem? (i := 2) rfl) (List.mem_of_getElem? (i := 3) rfl) (List.mem_of_getElem? (i := 4) rfl) hbX11_lean_X11_entryAt gdX11_entryAt) (Nat.le_trans (by decide : 6 + 1 ≤ 56) hd) (by decide) hl0A.1 (fun cy => wAt_11 cy _ hl0A.2) rfl ⟨by decide, by decide, by decide +kernel⟩ rfl rfl (Nat.le_of_ble_eq_true rfl) hk4 hn5 dX11_lean_2 (fun E S' q => ⟨q.1, q.2.1, wkExt.tr hE q.2.2⟩) (fun v' S2 hp => ?_)
  obtain ⟨v1, rfl, h, hWS2, hXS2, hIS2⟩ := hp
  refine wk_astore C (lv' := [some (.ref l0A), some (.int l1I), some (.int l2I), some (.int l3I), some (.ref v1)]) dX11_lean_5 (by decide) rfl ?_
  refine wk_aload_n C dX11_lean_7 rfl rfl ?_
  refine wk_iload_n C dX11_lean_8 rfl rfl ?_
  obtain ⟨k9, n10, hk9, hn10, h⟩ := h
  refine wk_callVX C hR EX (As := [.int l2I]) (cnt := 1) (tX11_entryAt (l := l) hex hlt hWS2 (hXS2 _ _ hl0A) h) rfl (wkGoodV (List.mem_of_getElem? (i := 1) rfl) (List.mem_of_getElem? (i := 2) rfl) (List.mem_of_getElem? (i := 3) rfl) (List.mem_of_getElem? (i := 4) rfl) hbX11_lean_X11_entryAt gdX11_entryAt) (Nat.le_trans (by decide : 6 + 1 ≤ 56) hd) (by decide) (hXS2 _ _ hl0A).1 (fun cy => wAt_11 cy _ (hXS2 _ _ hl0A).2) rfl ⟨by decide, by decide, by decide +kernel⟩ rfl rfl (Nat.le_of_ble_eq_true rfl) hk9 hn10 dX11_lean_9 (fun E S' q => ⟨q.1, q.2.1, wkExt.tr (wkExt.tr hE hXS2) q.2.2⟩) (fun v' S7 hp => ?_)
  obtain ⟨v6, rfl, h, hWS7, hXS7, hIS7⟩ := hp
  refine wk_pop C dX11_lean_12 rfl ?_
  refine wk_iload_n C dX11_lean_13 rfl rfl ?_
  refine wk_bipush C (v := (-20)) dX11_lean_14 (by decide) ?_
  refine wk_icmp_lt C (tgt := 25) dX11_lean_16 (by decide) (fun c11 => ?_) (fun c11 => ?_)
  · rw [if_pos c11] at h
    obtain ⟨t12a, t12b, h⟩ := h
    exact ET _ _ _ _ _ _ (79, 161, 83, "java/lang/IllegalArgumentException", "plus is -20 to 20") (by decide +kernel) (Nat.le_of_ble_eq_true rfl) (Or.inl ⟨dX11_lean_25, dX11_lean_28, dX11_lean_29, dX11_lean_31, dX11_lean_34⟩) ⟨h, hWS7, (wkExt.tr (wkExt.tr hE hXS2) hXS7)⟩ t12a t12b
  · rw [if_neg c11] at h
    refine wk_iload_n C dX11_lean_19 rfl rfl ?_
    refine wk_bipush C (v := 20) dX11_lean_20 (by decide) ?_
    refine wk_icmp_le C (tgt := 35) dX11_lean_22 (by decide) (fun c13 => ?_) (fun c13 => ?_)
    · rw [if_pos c13] at h
      refine wk_aload_n C dX11_lean_35 rfl rfl ?_
      refine wk_iload_n C dX11_lean_36 rfl rfl ?_
      refine wk_iload_n C dX11_lean_37 rfl rfl ?_
      refine wk_callV C hR (As := [.int l2I, .int l1I]) (cnt := 2) (tX11_leadsTo (l := l) hWS7 (hXS7 _ _ (hXS2 _ _ hl0A)) h) rfl (wkGoodV (List.mem_of_getElem? (i := 5) rfl) (List.mem_of_getElem? (i := 6) rfl) (List.mem_of_getElem? (i := 7) rfl) (List.mem_of_getElem? (i := 4) rfl) hbX11_lean_X11_leadsTo gdX11_leadsTo) (Nat.le_trans (by decide : 0 + 1 ≤ 56) hd) (by decide) (hXS7 _ _ (hXS2 _ _ hl0A)).1 (fun cy => wAt_11 cy _ (hXS7 _ _ (hXS2 _ _ hl0A)).2) rfl ⟨by decide, by decide, by decide +kernel⟩ rfl rfl (Nat.le_of_ble_eq_true rfl) hk9 hn10 dX11_lean_38 (fun v' S15 hp => ?_)
      obtain ⟨v14, rfl, h, hWS15, hXS15⟩ := hp
      refine wk_if_eq C (tgt := 54) dX11_lean_41 (by decide) (fun c19 => ?_) (fun c19 => ?_)
      · rw [if_pos c19] at h
        refine wk_aload_n C dX11_lean_54 rfl rfl ?_
        refine wk_bipush C (v := 108) dX11_lean_55 (by decide) ?_
        refine wk_iload_n C dX11_lean_57 rfl rfl ?_
        refine wk_callV C hR (As := [.int (108 : Int32), .int l1I]) (cnt := 2) (tX11_remember (l := l) hWS15 (hXS15 _ _ (hXS7 _ _ (hXS2 _ _ hl0A))) h) rfl (wkGoodV (List.mem_of_getElem? (i := 8) rfl) (List.mem_of_getElem? (i := 9) rfl) (List.mem_of_getElem? (i := 10) rfl) (List.mem_of_getElem? (i := 4) rfl) hbX11_lean_X11_remember gdX11_remember) (Nat.le_trans (by decide : 2 + 1 ≤ 56) hd) (by decide) (hXS15 _ _ (hXS7 _ _ (hXS2 _ _ hl0A))).1 (fun cy => wAt_11 cy _ (hXS15 _ _ (hXS7 _ _ (hXS2 _ _ hl0A))).2) rfl ⟨by decide, by decide, by decide +kernel⟩ rfl rfl (Nat.le_of_ble_eq_true rfl) hk9 hn10 dX11_lean_58 (fun v' S21 hp => ?_)
        obtain ⟨v20, rfl, h, hWS21, hXS21⟩ := hp
        refine wk_aload C dX11_lean_61 rfl ?_
        refine wk_iload_n C dX11_lean_63 rfl rfl ?_
        obtain ⟨S25, eS25, h⟩ := wkLt_some h
        refine wk_put C (S' := S25) huX11_lean_3 (hXS21 _ _ (hXS15 _ _ (hXS7 _ _ hIS2))).1 (fun cy => wAt_3 cy _ (hXS21 _ _ (hXS15 _ _ (hXS7 _ _ hIS2))).2) rfl 3 (by decide) (List.mem_of_getElem? (i := 11) rfl) rfl tyX3_ok nmX3 rfl (ty := .int) rfl rfl rfl (by show 3 < 17; decide) (fun cy b => by rw [eS25]; exact wSt_3_3 cy _ (hXS21 _ _ (hXS15 _ _ (hXS7 _ _ hIS2))).2 _ b) (by rw [eS25]) dX11_lean_64 ?_
        have hWS25 : wkWF S25 := by rw [eS25]; exact hWS21
        have hXS25 : wkExt S21 S25 := by rw [eS25]; exact wkExt.rf
        refine wk_aload C dX11_lean_67 rfl ?_
        refine wk_iload_n C dX11_lean_69 rfl rfl ?_
        obtain ⟨S26, eS26, h⟩ := wkLt_some h
        refine wk_put C (S' := S26) huX11_lean_3 (hXS25 _ _ (hXS21 _ _ (hXS15 _ _ (hXS7 _ _ hIS2)))).1 (fun cy => wAt_3 cy _ (hXS25 _ _ (hXS21 _ _ (hXS15 _ _ (hXS7 _ _ hIS2)))).2) rfl 4 (by decide) (List.mem_of_getElem? (i := 12) rfl) rfl tyX3_ok nmX3 rfl (ty := .int) rfl rfl rfl (by show 4 < 17; decide) (fun cy b => by rw [eS26]; exact wSt_3_4 cy _ (hXS25 _ _ (hXS21 _ _ (hXS15 _ _ (hXS7 _ _ hIS2)))).2 _ b) (by rw [eS26]) dX11_lean_70 ?_
        have hWS26 : wkWF S26 := by rw [eS26]; exact hWS25
        have hXS26 : wkExt S25 S26 := by rw [eS26]; exact wkExt.rf
        refine wk_aload_n C dX11_lean_73 rfl rfl ?_
        refine wk_iload_n C dX11_lean_74 rfl rfl ?_
        obtain ⟨k30, n31, hk30, hn31, h⟩ := h
        refine wk_callVX C hR EX (As := [.int l1I]) (cnt := 1) (tX11_refreshed (l := l) hst hex hlt hWS26 (hXS26 _ _ (hXS25 _ _ (hXS21 _ _ (hXS15 _ _ (hXS7 _ _ (hXS2 _ _ hl0A)))))) h) rfl (wkGoodV (List.mem_of_getElem? (i := 13) rfl) (List.mem_of_getElem? (i := 14) rfl) (List.mem_of_getElem? (i := 15) rfl) (List.mem_of_getElem? (i := 4) rfl) hbX11_lean_X11_refreshed gdX11_refreshed) (Nat.le_trans (by decide : 55 + 1 ≤ 56) hd) (by decide) (hXS26 _ _ (hXS25 _ _ (hXS21 _ _ (hXS15 _ _ (hXS7 _ _ (hXS2 _ _ hl0A)))))).1 (fun cy => wAt_11 cy _ (hXS26 _ _ (hXS25 _ _ (hXS21 _ _ (hXS15 _ _ (hXS7 _ _ (hXS2 _ _ hl0A)))))).2) rfl ⟨by decide, by decide, by decide +kernel⟩ rfl rfl (Nat.le_of_ble_eq_true rfl) hk30 hn31 dX11_lean_75 (fun E S' q => ⟨q.1, q.2.1, wkExt.tr (wkExt.tr (wkExt.tr (wkExt.tr (wkExt.tr (wkExt.tr (wkExt.tr hE hXS2) hXS7) hXS15) hXS21) hXS25) hXS26) q.2.2⟩) (fun v' S28 hp => ?_)
        obtain ⟨v27, rfl, h, hWS28, hXS28, hIS28⟩ := hp
        refine wk_get C (v := .int (gEntry_boundNow S28 v27)) huX11_lean_3 hIS28.1 (fun cy => wAt_3 cy _ hIS28.2) rfl 8 (by decide) (List.mem_of_getElem? (i := 16) rfl) rfl rfl dX11_lean_78 ?_
        exact E _ _ _ _ _ _ hk30 hn31 dX11_lean_81 ⟨(gEntry_boundNow S28 v27), rfl, h, hWS28, (wkExt.tr (wkExt.tr (wkExt.tr (wkExt.tr (wkExt.tr (wkExt.tr (wkExt.tr hE hXS2) hXS7) hXS15) hXS21) hXS25) hXS26) hXS28)⟩
      · rw [if_neg c19] at h
        obtain ⟨t32a, t32b, h⟩ := h
        exact ET _ _ _ _ _ _ (166, 168, 170, "java/lang/UnsupportedOperationException", "leaning would go round") (by decide +kernel) (Nat.le_of_ble_eq_true rfl) (Or.inl ⟨dX11_lean_44, dX11_lean_47, dX11_lean_48, dX11_lean_50, dX11_lean_53⟩) ⟨h, hWS15, (wkExt.tr (wkExt.tr (wkExt.tr hE hXS2) hXS7) hXS15)⟩ t32a t32b
    · rw [if_neg c13] at h
      obtain ⟨t33a, t33b, h⟩ := h
      exact ET _ _ _ _ _ _ (79, 161, 83, "java/lang/IllegalArgumentException", "plus is -20 to 20") (by decide +kernel) (Nat.le_of_ble_eq_true rfl) (Or.inl ⟨dX11_lean_25, dX11_lean_28, dX11_lean_29, dX11_lean_31, dX11_lean_34⟩) ⟨h, hWS7, (wkExt.tr (wkExt.tr hE hXS2) hXS7)⟩ t33a t33b
def wvX11_stand : List Cond := .code yX11_stand cX11_stand 3 (some .int) :: (([.methodLink RX11 144 yX11_refreshed, .instanceMethod yX11_refreshed, .selects RX11 yX11_refreshed yX11_refreshed, .initialized RX11, .fieldLink RX11 158 "Witnessworks$Entry" "leaning" "I", .methodLink RX11 99 yX11_remember, .instanceMethod yX11_remember, .selects RX11 yX11_remember yX11_remember, .fieldLink RX11 152 "Witnessworks$Entry" "boundNow" "I", .fieldLink RX11 155 "Witnessworks$Entry" "bound" "I"] : List Cond) ++ ((wsX30) ++ (wvX11_refreshed ++ (wvX11_remember))))
theorem huX11_stand_3 : ∀ w ∈ u_ws RX3 TX3 17, w ∈ wvX11_stand := fun w h => List.mem_cons_of_mem _ (List.mem_append_right _ (List.mem_append_left _ h))
theorem hbX11_stand_X11_refreshed : ∀ w ∈ wvX11_refreshed, w ∈ wvX11_stand := fun w h => List.mem_cons_of_mem _ (List.mem_append_right _ (List.mem_append_right _ (List.mem_append_left _ h)))
theorem hbX11_stand_X11_remember : ∀ w ∈ wvX11_remember, w ∈ wvX11_stand := fun w h => List.mem_cons_of_mem _ (List.mem_append_right _ (List.mem_append_right _ (List.mem_append_right _ h)))
theorem gdX11_stand : ∀ w ∈ wvX11_stand, wkGd w := wkGdC rfl (wkGdA (wkGdL (by decide +kernel)) (wkGdA gdX3 (wkGdA gdX11_refreshed gdX11_remember)))
def rX11_stand (F : Nat) (k n : Nat) (l0A : Nat) (l1I : Int32) (S : wPS) (Φ : (Int32 → wPS → Prop)) (Ψ : String → wPS → Prop) : Prop :=
  ∃ k4 n5 : Nat, 0 + k4 ≤ k ∧ 0 + n5 ≤ n ∧ rX11_refreshed F k4 n5 l0A l1I S (fun v1 S2 => if 0 ≤ (gEntry_leaning S2 v1) then (rX11_remember F l0A (115 : Int32) l1I S2 fun v7 S8 => wkLt (wu_Entry_bound S8 v1 (gEntry_boundNow S8 v1)) fun S12 => wkLt (wu_Entry_leaning S12 v1 (-1 : Int32)) fun S13 => Φ (gEntry_bound S13 v1) S13) else ((0 + k4) + 1 ≤ k ∧ (0 + n5) + 6 ≤ n ∧ Ψ "java/lang/UnsupportedOperationException" S2)) Ψ
set_option maxHeartbeats 4000000 in
set_option maxRecDepth 100000 in
theorem tX11_stand {l : Launch} {g : wkG} {F : Nat} {k n : Nat}  {S : wPS} {l0A : Nat} {l1I : Int32} {Φ : (Int32 → wPS → Prop)} {Ψ : String → wPS → Prop} (hst : wkSta g) (hex : wkExA g) (hlt : l.stackTraces = false) (hW : wkWF S) (hl0A : wkIs S l0A 11) (h : rX11_stand F k n l0A l1I S Φ Ψ) : wkMetX l g yX11_stand wvX11_stand 56 k n [.ref l0A, .int l1I] S (fun v' S'' => ∃ v : Int32, v' = some (.int v) ∧ Φ v S'' ∧ wkWF S'' ∧ wkExt S S'') (fun E S'' => Ψ E S'' ∧ wkWF S'' ∧ wkExt S S'') := by
  refine wkMetX_of (ret := (some .int)) (by decide) rfl (Nat.le_of_ble_eq_true rfl) rfl hex hlt (by decide) (fun X hg C hR E EX ET => ?_)
  subst hg
  have hE : wkExt S S := wkExt.rf
  have hd : 56 ≤ 56 := Nat.le_refl _
  show wkGo l X 3 0 0 0 S [some (.ref l0A), some (.int l1I), none] []
  unfold rX11_stand at h
  refine wk_aload_n C dX11_stand_0 rfl rfl ?_
  refine wk_iload_n C dX11_stand_1 rfl rfl ?_
  obtain ⟨k4, n5, hk4, hn5, h⟩ := h
  refine wk_callVX C hR EX (As := [.int l1I]) (cnt := 1) (tX11_refreshed (l := l) hst hex hlt hW hl0A h) rfl (wkGoodV (List.mem_of_getElem? (i := 1) rfl) (List.mem_of_getElem? (i := 2) rfl) (List.mem_of_getElem? (i := 3) rfl) (List.mem_of_getElem? (i := 4) rfl) hbX11_stand_X11_refreshed gdX11_refreshed) (Nat.le_trans (by decide : 55 + 1 ≤ 56) hd) (by decide) hl0A.1 (fun cy => wAt_11 cy _ hl0A.2) rfl ⟨by decide, by decide, by decide +kernel⟩ rfl rfl (Nat.le_of_ble_eq_true rfl) hk4 hn5 dX11_stand_2 (fun E S' q => ⟨q.1, q.2.1, wkExt.tr hE q.2.2⟩) (fun v' S2 hp => ?_)
  obtain ⟨v1, rfl, h, hWS2, hXS2, hIS2⟩ := hp
  refine wk_astore_n C (lv' := [some (.ref l0A), some (.int l1I), some (.ref v1)]) dX11_stand_5 rfl (by decide) rfl ?_
  refine wk_aload_n C dX11_stand_6 rfl rfl ?_
  refine wk_get C (v := .int (gEntry_leaning S2 v1)) huX11_stand_3 hIS2.1 (fun cy => wAt_3 cy _ hIS2.2) rfl 3 (by decide) (List.mem_of_getElem? (i := 5) rfl) rfl rfl dX11_stand_7 ?_
  refine wk_if_ge C (tgt := 23) dX11_stand_10 (by decide) (fun c6 => ?_) (fun c6 => ?_)
  · rw [if_pos c6] at h
    refine wk_aload_n C dX11_stand_23 rfl rfl ?_
    refine wk_bipush C (v := 115) dX11_stand_24 (by decide) ?_
    refine wk_iload_n C dX11_stand_26 rfl rfl ?_
    refine wk_callV C hR (As := [.int (115 : Int32), .int l1I]) (cnt := 2) (tX11_remember (l := l) hWS2 (hXS2 _ _ hl0A) h) rfl (wkGoodV (List.mem_of_getElem? (i := 6) rfl) (List.mem_of_getElem? (i := 7) rfl) (List.mem_of_getElem? (i := 8) rfl) (List.mem_of_getElem? (i := 4) rfl) hbX11_stand_X11_remember gdX11_remember) (Nat.le_trans (by decide : 2 + 1 ≤ 56) hd) (by decide) (hXS2 _ _ hl0A).1 (fun cy => wAt_11 cy _ (hXS2 _ _ hl0A).2) rfl ⟨by decide, by decide, by decide +kernel⟩ rfl rfl (Nat.le_of_ble_eq_true rfl) hk4 hn5 dX11_stand_27 (fun v' S8 hp => ?_)
    obtain ⟨v7, rfl, h, hWS8, hXS8⟩ := hp
    refine wk_aload_n C dX11_stand_30 rfl rfl ?_
    refine wk_aload_n C dX11_stand_31 rfl rfl ?_
    refine wk_get C (v := .int (gEntry_boundNow S8 v1)) huX11_stand_3 (hXS8 _ _ hIS2).1 (fun cy => wAt_3 cy _ (hXS8 _ _ hIS2).2) rfl 8 (by decide) (List.mem_of_getElem? (i := 9) rfl) rfl rfl dX11_stand_32 ?_
    obtain ⟨S12, eS12, h⟩ := wkLt_some h
    refine wk_put C (S' := S12) huX11_stand_3 (hXS8 _ _ hIS2).1 (fun cy => wAt_3 cy _ (hXS8 _ _ hIS2).2) rfl 2 (by decide) (List.mem_of_getElem? (i := 10) rfl) rfl tyX3_ok nmX3 rfl (ty := .int) rfl rfl rfl (by show 2 < 17; decide) (fun cy b => by rw [eS12]; exact wSt_3_2 cy _ (hXS8 _ _ hIS2).2 _ b) (by rw [eS12]) dX11_stand_35 ?_
    have hWS12 : wkWF S12 := by rw [eS12]; exact hWS8
    have hXS12 : wkExt S8 S12 := by rw [eS12]; exact wkExt.rf
    refine wk_aload_n C dX11_stand_38 rfl rfl ?_
    refine wk_iconst C (v := (-1)) dX11_stand_39 (by decide) ?_
    obtain ⟨S13, eS13, h⟩ := wkLt_some h
    refine wk_put C (S' := S13) huX11_stand_3 (hXS12 _ _ (hXS8 _ _ hIS2)).1 (fun cy => wAt_3 cy _ (hXS12 _ _ (hXS8 _ _ hIS2)).2) rfl 3 (by decide) (List.mem_of_getElem? (i := 5) rfl) rfl tyX3_ok nmX3 rfl (ty := .int) rfl rfl rfl (by show 3 < 17; decide) (fun cy b => by rw [eS13]; exact wSt_3_3 cy _ (hXS12 _ _ (hXS8 _ _ hIS2)).2 _ b) (by rw [eS13]) dX11_stand_40 ?_
    have hWS13 : wkWF S13 := by rw [eS13]; exact hWS12
    have hXS13 : wkExt S12 S13 := by rw [eS13]; exact wkExt.rf
    refine wk_aload_n C dX11_stand_43 rfl rfl ?_
    refine wk_get C (v := .int (gEntry_bound S13 v1)) huX11_stand_3 (hXS13 _ _ (hXS12 _ _ (hXS8 _ _ hIS2))).1 (fun cy => wAt_3 cy _ (hXS13 _ _ (hXS12 _ _ (hXS8 _ _ hIS2))).2) rfl 2 (by decide) (List.mem_of_getElem? (i := 10) rfl) rfl rfl dX11_stand_44 ?_
    exact E _ _ _ _ _ _ hk4 hn5 dX11_stand_47 ⟨(gEntry_bound S13 v1), rfl, h, hWS13, (wkExt.tr (wkExt.tr (wkExt.tr (wkExt.tr hE hXS2) hXS8) hXS12) hXS13)⟩
  · rw [if_neg c6] at h
    obtain ⟨t14a, t14b, h⟩ := h
    exact ET _ _ _ _ _ _ (166, 174, 170, "java/lang/UnsupportedOperationException", "it leans on nothing") (by decide +kernel) (Nat.le_of_ble_eq_true rfl) (Or.inl ⟨dX11_stand_13, dX11_stand_16, dX11_stand_17, dX11_stand_19, dX11_stand_22⟩) ⟨h, hWS2, (wkExt.tr hE hXS2)⟩ t14a t14b
def wvX11_carry : List Cond := .code yX11_carry cX11_carry 6 (some .int) :: (([.methodLink RX11 144 yX11_refreshed, .instanceMethod yX11_refreshed, .selects RX11 yX11_refreshed yX11_refreshed, .initialized RX11, .methodLink RX11 66 yJ0_indexOf_0f7a4, .instanceMethod yJ0_indexOf_0f7a4, .selects RJ0 yJ0_indexOf_0f7a4 yJ0_indexOf_0f7a4, .initialized RJ0, .fieldLink RX11 10 "Witnessworks" "house" "LWitnessworks$House;", .fieldLink RX11 30 "Witnessworks" "draft" "LWitnessworks$Entry;", .methodLink RX11 178 yX4_carriesOver, .instanceMethod yX4_carriesOver, .selects RX4 yX4_carriesOver yX4_carriesOver, .initialized RX4, .fieldLink RX11 86 "Witnessworks" "entryCount" "I", .fieldLink RX11 18 "Witnessworks" "book" "[LWitnessworks$Entry;", .fieldLink RX11 184 "Witnessworks$Entry" "size" "I", .fieldLink RX11 155 "Witnessworks$Entry" "bound" "I", .methodLink RX11 95 yX3_begin, .instanceMethod yX3_begin, .selects RX3 yX3_begin yX3_begin, .initialized RX3, .methodLink RX11 187 yX3_copyQuestion, .instanceMethod yX3_copyQuestion, .selects RX3 yX3_copyQuestion yX3_copyQuestion, .fieldLink RX11 191 "Witnessworks$Entry" "origin" "I", .methodLink RX11 99 yX11_remember, .instanceMethod yX11_remember, .selects RX11 yX11_remember yX11_remember] : List Cond) ++ ((wsX110 ++ (wsX30)) ++ (wvX11_refreshed ++ (wvJ0_indexOf_0f7a4 ++ (wvX4_carriesOver ++ (wvX3_begin ++ (wvX3_copyQuestion ++ (wvX11_remember))))))))
theorem huX11_carry_11 : ∀ w ∈ u_ws RX11 TX11 19, w ∈ wvX11_carry := fun w h => List.mem_cons_of_mem _ (List.mem_append_right _ (List.mem_append_left _ (List.mem_append_left _ h)))
theorem huX11_carry_3 : ∀ w ∈ u_ws RX3 TX3 17, w ∈ wvX11_carry := fun w h => List.mem_cons_of_mem _ (List.mem_append_right _ (List.mem_append_left _ (List.mem_append_right _ h)))
theorem hbX11_carry_X11_refreshed : ∀ w ∈ wvX11_refreshed, w ∈ wvX11_carry := fun w h => List.mem_cons_of_mem _ (List.mem_append_right _ (List.mem_append_right _ (List.mem_append_left _ h)))
theorem hbX11_carry_J0_indexOf_0f7a4 : ∀ w ∈ wvJ0_indexOf_0f7a4, w ∈ wvX11_carry := fun w h => List.mem_cons_of_mem _ (List.mem_append_right _ (List.mem_append_right _ (List.mem_append_right _ (List.mem_append_left _ h))))
theorem hbX11_carry_X4_carriesOver : ∀ w ∈ wvX4_carriesOver, w ∈ wvX11_carry := fun w h => List.mem_cons_of_mem _ (List.mem_append_right _ (List.mem_append_right _ (List.mem_append_right _ (List.mem_append_right _ (List.mem_append_left _ h)))))
theorem hbX11_carry_X3_begin : ∀ w ∈ wvX3_begin, w ∈ wvX11_carry := fun w h => List.mem_cons_of_mem _ (List.mem_append_right _ (List.mem_append_right _ (List.mem_append_right _ (List.mem_append_right _ (List.mem_append_right _ (List.mem_append_left _ h))))))
theorem hbX11_carry_X3_copyQuestion : ∀ w ∈ wvX3_copyQuestion, w ∈ wvX11_carry := fun w h => List.mem_cons_of_mem _ (List.mem_append_right _ (List.mem_append_right _ (List.mem_append_right _ (List.mem_append_right _ (List.mem_append_right _ (List.mem_append_right _ (List.mem_append_left _ h)))))))
theorem hbX11_carry_X11_remember : ∀ w ∈ wvX11_remember, w ∈ wvX11_carry := fun w h => List.mem_cons_of_mem _ (List.mem_append_right _ (List.mem_append_right _ (List.mem_append_right _ (List.mem_append_right _ (List.mem_append_right _ (List.mem_append_right _ (List.mem_append_right _ h)))))))
theorem gdX11_carry : ∀ w ∈ wvX11_carry, wkGd w := wkGdC rfl (wkGdA (wkGdL (by decide +kernel)) (wkGdA (wkGdA gdX11 gdX3) (wkGdA gdX11_refreshed (wkGdA gdJ0_indexOf_0f7a4 (wkGdA gdX4_carriesOver (wkGdA gdX3_begin (wkGdA gdX3_copyQuestion gdX11_remember)))))))
def rX11_carry (F : Nat) (k n : Nat) (l0A : Nat) (l1I : Int32) (l2I : Int32) (S : wPS) (Φ : (Int32 → wPS → Prop)) (Ψ : String → wPS → Prop) : Prop :=
  ∃ k4 n5 : Nat, 0 + k4 ≤ k ∧ 0 + n5 ≤ n ∧ rX11_refreshed F k4 n5 l0A l1I S (fun v1 S2 => rJ0_indexOf_0f7a4 F l2I S2 fun v6 S7 => if 0 ≤ v6 then (rX4_carriesOver F (wkAd (gWitnessworks_house S7 l0A)) v1 v6 (wkAd (gWitnessworks_draft S7 l0A)) S7 fun v12 S13 => if v12 = 0 then ((0 + k4) + 1 ≤ k ∧ (0 + n5) + 6 ≤ n ∧ Ψ "java/lang/UnsupportedOperationException" S13) else (if (gWitnessworks_entryCount S13 l0A) < (12 : Int32) then (¬ ((gWitnessworks_entryCount S13 l0A) < 0 ∨ S13.len (wkAd (gWitnessworks_book S13 l0A)) ≤ ((gWitnessworks_entryCount S13 l0A)).toNatClampNeg) ∧ rX3_begin F (wkAd (S13.rA (wkAd (gWitnessworks_book S13 l0A)) ((gWitnessworks_entryCount S13 l0A)).toNatClampNeg)) v6 (gEntry_size S13 (wkAd (gWitnessworks_draft S13 l0A))) (gEntry_bound S13 (wkAd (gWitnessworks_draft S13 l0A))) S13 fun v21 S22 => rX3_copyQuestion F (wkAd (S13.rA (wkAd (gWitnessworks_book S13 l0A)) ((gWitnessworks_entryCount S13 l0A)).toNatClampNeg)) (wkAd (gWitnessworks_draft S22 l0A)) S22 fun v26 S27 => wkLt (wu_Entry_origin S27 (wkAd (S13.rA (wkAd (gWitnessworks_book S13 l0A)) ((gWitnessworks_entryCount S13 l0A)).toNatClampNeg)) l1I) fun S31 => rX11_remember F l0A (121 : Int32) (gWitnessworks_entryCount S31 l0A) S31 fun v32 S33 => wkLt (wu_Witnessworks_entryCount S33 l0A ((gWitnessworks_entryCount S33 l0A) + (1 : Int32))) fun S37 => Φ ((gWitnessworks_entryCount S37 l0A) - (1 : Int32)) S37) else ((0 + k4) + 1 ≤ k ∧ (0 + n5) + 6 ≤ n ∧ Ψ "java/lang/IllegalStateException" S13))) else ((0 + k4) + 1 ≤ k ∧ (0 + n5) + 6 ≤ n ∧ Ψ "java/lang/IllegalArgumentException" S7)) Ψ
set_option maxHeartbeats 4000000 in
set_option maxRecDepth 100000 in
theorem tX11_carry {l : Launch} {g : wkG} {F : Nat} {k n : Nat}  {S : wPS} {l0A : Nat} {l1I : Int32} {l2I : Int32} {Φ : (Int32 → wPS → Prop)} {Ψ : String → wPS → Prop} (hst : wkSta g) (hstr : wkStr g) (hex : wkExA g) (hlt : l.stackTraces = false) (hW : wkWF S) (hl0A : wkIs S l0A 11) (h : rX11_carry F k n l0A l1I l2I S Φ Ψ) : wkMetX l g yX11_carry wvX11_carry 56 k n [.ref l0A, .int l1I, .int l2I] S (fun v' S'' => ∃ v : Int32, v' = some (.int v) ∧ Φ v S'' ∧ wkWF S'' ∧ wkExt S S'') (fun E S'' => Ψ E S'' ∧ wkWF S'' ∧ wkExt S S'') := by
  refine wkMetX_of (ret := (some .int)) (by decide) rfl (Nat.le_of_ble_eq_true rfl) rfl hex hlt (by decide) (fun X hg C hR E EX ET => ?_)
  subst hg
  have hE : wkExt S S := wkExt.rf
  have hd : 56 ≤ 56 := Nat.le_refl _
  show wkGo l X 6 0 0 0 S [some (.ref l0A), some (.int l1I), some (.int l2I), none, none, none] []
  unfold rX11_carry at h
  refine wk_aload_n C dX11_carry_0 rfl rfl ?_
  refine wk_iload_n C dX11_carry_1 rfl rfl ?_
  obtain ⟨k4, n5, hk4, hn5, h⟩ := h
  refine wk_callVX C hR EX (As := [.int l1I]) (cnt := 1) (tX11_refreshed (l := l) hst hex hlt hW hl0A h) rfl (wkGoodV (List.mem_of_getElem? (i := 1) rfl) (List.mem_of_getElem? (i := 2) rfl) (List.mem_of_getElem? (i := 3) rfl) (List.mem_of_getElem? (i := 4) rfl) hbX11_carry_X11_refreshed gdX11_refreshed) (Nat.le_trans (by decide : 55 + 1 ≤ 56) hd) (by decide) hl0A.1 (fun cy => wAt_11 cy _ hl0A.2) rfl ⟨by decide, by decide, by decide +kernel⟩ rfl rfl (Nat.le_of_ble_eq_true rfl) hk4 hn5 dX11_carry_2 (fun E S' q => ⟨q.1, q.2.1, wkExt.tr hE q.2.2⟩) (fun v' S2 hp => ?_)
  obtain ⟨v1, rfl, h, hWS2, hXS2, hIS2⟩ := hp
  refine wk_astore_n C (lv' := [some (.ref l0A), some (.int l1I), some (.int l2I), some (.ref v1), none, none]) dX11_carry_5 rfl (by decide) rfl ?_
  refine wk_ldcS C hstr rfl dX11_carry_6 ?_
  refine wk_iload_n C dX11_carry_8 rfl rfl ?_
  refine wk_callVS C hstr hR (As := [.int l2I]) (cnt := 1) (tJ0_indexOf_0f7a4 (l := l) hstr hWS2 rfl h) rfl (wkGoodV (List.mem_of_getElem? (i := 5) rfl) (List.mem_of_getElem? (i := 6) rfl) (List.mem_of_getElem? (i := 7) rfl) (List.mem_of_getElem? (i := 8) rfl) hbX11_carry_J0_indexOf_0f7a4 gdJ0_indexOf_0f7a4) (Nat.le_trans (by decide : 3 + 1 ≤ 56) hd) (by decide) rfl rfl ⟨by decide, by decide, by decide +kernel⟩ rfl rfl (Nat.le_of_ble_eq_true rfl) hk4 hn5 dX11_carry_9 (fun v' S7 hp => ?_)
  obtain ⟨v6, rfl, h, hWS7, hXS7⟩ := hp
  refine wk_istore C (lv' := [some (.ref l0A), some (.int l1I), some (.int l2I), some (.ref v1), some (.int v6), none]) dX11_carry_12 (by decide) rfl ?_
  refine wk_iload C dX11_carry_14 rfl ?_
  refine wk_if_ge C (tgt := 29) dX11_carry_16 (by decide) (fun c11 => ?_) (fun c11 => ?_)
  · rw [if_pos c11] at h
    refine wk_aload_n C dX11_carry_29 rfl rfl ?_
    refine wk_get C huX11_carry_11 (hXS7 _ _ (hXS2 _ _ hl0A)).1 (fun cy => wAt_11 cy _ (hXS7 _ _ (hXS2 _ _ hl0A)).2) rfl 0 (by decide) (List.mem_of_getElem? (i := 9) rfl) rfl (congrArg some (congrArg va_rf (wf_Witnessworks_house hWS7 (hXS7 _ _ (hXS2 _ _ hl0A))).1)) dX11_carry_30 ?_
    refine wk_aload_n C dX11_carry_33 rfl rfl ?_
    refine wk_iload C dX11_carry_34 rfl ?_
    refine wk_aload_n C dX11_carry_36 rfl rfl ?_
    refine wk_get C huX11_carry_11 (hXS7 _ _ (hXS2 _ _ hl0A)).1 (fun cy => wAt_11 cy _ (hXS7 _ _ (hXS2 _ _ hl0A)).2) rfl 5 (by decide) (List.mem_of_getElem? (i := 10) rfl) rfl (congrArg some (congrArg va_rf (wf_Witnessworks_draft hWS7 (hXS7 _ _ (hXS2 _ _ hl0A))).1)) dX11_carry_37 ?_
    refine wk_callV C hR (As := [.ref v1, .int v6, .ref (wkAd (gWitnessworks_draft S7 l0A))]) (cnt := 3) (tX4_carriesOver (l := l) hst hWS7 (wf_Witnessworks_house hWS7 (hXS7 _ _ (hXS2 _ _ hl0A))).2 (hXS7 _ _ hIS2) (wf_Witnessworks_draft hWS7 (hXS7 _ _ (hXS2 _ _ hl0A))).2 h) rfl (wkGoodV (List.mem_of_getElem? (i := 11) rfl) (List.mem_of_getElem? (i := 12) rfl) (List.mem_of_getElem? (i := 13) rfl) (List.mem_of_getElem? (i := 14) rfl) hbX11_carry_X4_carriesOver gdX4_carriesOver) (Nat.le_trans (by decide : 4 + 1 ≤ 56) hd) (by decide) (wf_Witnessworks_house hWS7 (hXS7 _ _ (hXS2 _ _ hl0A))).2.1 (fun cy => wAt_4 cy _ (wf_Witnessworks_house hWS7 (hXS7 _ _ (hXS2 _ _ hl0A))).2.2) rfl ⟨by decide, by decide, by decide +kernel⟩ rfl rfl (Nat.le_of_ble_eq_true rfl) hk4 hn5 dX11_carry_40 (fun v' S13 hp => ?_)
    obtain ⟨v12, rfl, h, hWS13, hXS13⟩ := hp
    refine wk_if_ne C (tgt := 56) dX11_carry_43 (by decide) (fun c17 => ?_) (fun c17 => ?_)
    · rw [if_neg c17] at h
      refine wk_aload_n C dX11_carry_56 rfl rfl ?_
      refine wk_get C (v := .int (gWitnessworks_entryCount S13 l0A)) huX11_carry_11 (hXS13 _ _ (hXS7 _ _ (hXS2 _ _ hl0A))).1 (fun cy => wAt_11 cy _ (hXS13 _ _ (hXS7 _ _ (hXS2 _ _ hl0A))).2) rfl 2 (by decide) (List.mem_of_getElem? (i := 15) rfl) rfl rfl dX11_carry_57 ?_
      refine wk_bipush C (v := 12) dX11_carry_60 (by decide) ?_
      refine wk_icmp_lt C (tgt := 75) dX11_carry_62 (by decide) (fun c18 => ?_) (fun c18 => ?_)
      · rw [if_pos c18] at h
        refine wk_aload_n C dX11_carry_75 rfl rfl ?_
        refine wk_get C huX11_carry_11 (hXS13 _ _ (hXS7 _ _ (hXS2 _ _ hl0A))).1 (fun cy => wAt_11 cy _ (hXS13 _ _ (hXS7 _ _ (hXS2 _ _ hl0A))).2) rfl 1 (by decide) (List.mem_of_getElem? (i := 16) rfl) rfl (congrArg some (congrArg va_rf (wf_Witnessworks_book hWS13 (hXS13 _ _ (hXS7 _ _ (hXS2 _ _ hl0A)))).1)) dX11_carry_76 ?_
        refine wk_aload_n C dX11_carry_79 rfl rfl ?_
        refine wk_get C (v := .int (gWitnessworks_entryCount S13 l0A)) huX11_carry_11 (hXS13 _ _ (hXS7 _ _ (hXS2 _ _ hl0A))).1 (fun cy => wAt_11 cy _ (hXS13 _ _ (hXS7 _ _ (hXS2 _ _ hl0A))).2) rfl 2 (by decide) (List.mem_of_getElem? (i := 15) rfl) rfl rfl dX11_carry_80 ?_
        obtain ⟨i19, h⟩ := h
        have w20 := wf_REntry hWS13 (wf_Witnessworks_book hWS13 (hXS13 _ _ (hXS7 _ _ (hXS2 _ _ hl0A)))).2 (Nat.not_le.mp fun q => i19 (Or.inr q))
        refine wk_aaldEntry C (wf_Witnessworks_book hWS13 (hXS13 _ _ (hXS7 _ _ (hXS2 _ _ hl0A)))).2.1 (wf_Witnessworks_book hWS13 (hXS13 _ _ (hXS7 _ _ (hXS2 _ _ hl0A)))).2.2 i19 w20.1 dX11_carry_83 ?_
        refine wk_astore C (lv' := [some (.ref l0A), some (.int l1I), some (.int l2I), some (.ref v1), some (.int v6), some (.ref (wkAd (S13.rA (wkAd (gWitnessworks_book S13 l0A)) ((gWitnessworks_entryCount S13 l0A)).toNatClampNeg)))]) dX11_carry_84 (by decide) rfl ?_
        refine wk_aload C dX11_carry_86 rfl ?_
        refine wk_iload C dX11_carry_88 rfl ?_
        refine wk_aload_n C dX11_carry_90 rfl rfl ?_
        refine wk_get C huX11_carry_11 (hXS13 _ _ (hXS7 _ _ (hXS2 _ _ hl0A))).1 (fun cy => wAt_11 cy _ (hXS13 _ _ (hXS7 _ _ (hXS2 _ _ hl0A))).2) rfl 5 (by decide) (List.mem_of_getElem? (i := 10) rfl) rfl (congrArg some (congrArg va_rf (wf_Witnessworks_draft hWS13 (hXS13 _ _ (hXS7 _ _ (hXS2 _ _ hl0A)))).1)) dX11_carry_91 ?_
        refine wk_get C (v := .int (gEntry_size S13 (wkAd (gWitnessworks_draft S13 l0A)))) huX11_carry_3 (wf_Witnessworks_draft hWS13 (hXS13 _ _ (hXS7 _ _ (hXS2 _ _ hl0A)))).2.1 (fun cy => wAt_3 cy _ (wf_Witnessworks_draft hWS13 (hXS13 _ _ (hXS7 _ _ (hXS2 _ _ hl0A)))).2.2) rfl 1 (by decide) (List.mem_of_getElem? (i := 17) rfl) rfl rfl dX11_carry_94 ?_
        refine wk_aload_n C dX11_carry_97 rfl rfl ?_
        refine wk_get C huX11_carry_11 (hXS13 _ _ (hXS7 _ _ (hXS2 _ _ hl0A))).1 (fun cy => wAt_11 cy _ (hXS13 _ _ (hXS7 _ _ (hXS2 _ _ hl0A))).2) rfl 5 (by decide) (List.mem_of_getElem? (i := 10) rfl) rfl (congrArg some (congrArg va_rf (wf_Witnessworks_draft hWS13 (hXS13 _ _ (hXS7 _ _ (hXS2 _ _ hl0A)))).1)) dX11_carry_98 ?_
        refine wk_get C (v := .int (gEntry_bound S13 (wkAd (gWitnessworks_draft S13 l0A)))) huX11_carry_3 (wf_Witnessworks_draft hWS13 (hXS13 _ _ (hXS7 _ _ (hXS2 _ _ hl0A)))).2.1 (fun cy => wAt_3 cy _ (wf_Witnessworks_draft hWS13 (hXS13 _ _ (hXS7 _ _ (hXS2 _ _ hl0A)))).2.2) rfl 2 (by decide) (List.mem_of_getElem? (i := 18) rfl) rfl rfl dX11_carry_101 ?_
        refine wk_callV C hR (As := [.int v6, .int (gEntry_size S13 (wkAd (gWitnessworks_draft S13 l0A))), .int (gEntry_bound S13 (wkAd (gWitnessworks_draft S13 l0A)))]) (cnt := 3) (tX3_begin (l := l) hWS13 w20.2 h) rfl (wkGoodV (List.mem_of_getElem? (i := 19) rfl) (List.mem_of_getElem? (i := 20) rfl) (List.mem_of_getElem? (i := 21) rfl) (List.mem_of_getElem? (i := 22) rfl) hbX11_carry_X3_begin gdX3_begin) (Nat.le_trans (by decide : 0 + 1 ≤ 56) hd) (by decide) w20.2.1 (fun cy => wAt_3 cy _ w20.2.2) rfl ⟨by decide, by decide, by decide +kernel⟩ rfl rfl (Nat.le_of_ble_eq_true rfl) hk4 hn5 dX11_carry_104 (fun v' S22 hp => ?_)
        obtain ⟨v21, rfl, h, hWS22, hXS22⟩ := hp
        refine wk_aload C dX11_carry_107 rfl ?_
        refine wk_aload_n C dX11_carry_109 rfl rfl ?_
        refine wk_get C huX11_carry_11 (hXS22 _ _ (hXS13 _ _ (hXS7 _ _ (hXS2 _ _ hl0A)))).1 (fun cy => wAt_11 cy _ (hXS22 _ _ (hXS13 _ _ (hXS7 _ _ (hXS2 _ _ hl0A)))).2) rfl 5 (by decide) (List.mem_of_getElem? (i := 10) rfl) rfl (congrArg some (congrArg va_rf (wf_Witnessworks_draft hWS22 (hXS22 _ _ (hXS13 _ _ (hXS7 _ _ (hXS2 _ _ hl0A))))).1)) dX11_carry_110 ?_
        refine wk_callV C hR (As := [.ref (wkAd (gWitnessworks_draft S22 l0A))]) (cnt := 1) (tX3_copyQuestion (l := l) hWS22 (hXS22 _ _ w20.2) (wf_Witnessworks_draft hWS22 (hXS22 _ _ (hXS13 _ _ (hXS7 _ _ (hXS2 _ _ hl0A))))).2 h) rfl (wkGoodV (List.mem_of_getElem? (i := 23) rfl) (List.mem_of_getElem? (i := 24) rfl) (List.mem_of_getElem? (i := 25) rfl) (List.mem_of_getElem? (i := 22) rfl) hbX11_carry_X3_copyQuestion gdX3_copyQuestion) (Nat.le_trans (by decide : 1 + 1 ≤ 56) hd) (by decide) (hXS22 _ _ w20.2).1 (fun cy => wAt_3 cy _ (hXS22 _ _ w20.2).2) rfl ⟨by decide, by decide, by decide +kernel⟩ rfl rfl (Nat.le_of_ble_eq_true rfl) hk4 hn5 dX11_carry_113 (fun v' S27 hp => ?_)
        obtain ⟨v26, rfl, h, hWS27, hXS27⟩ := hp
        refine wk_aload C dX11_carry_116 rfl ?_
        refine wk_iload_n C dX11_carry_118 rfl rfl ?_
        obtain ⟨S31, eS31, h⟩ := wkLt_some h
        refine wk_put C (S' := S31) huX11_carry_3 (hXS27 _ _ (hXS22 _ _ w20.2)).1 (fun cy => wAt_3 cy _ (hXS27 _ _ (hXS22 _ _ w20.2)).2) rfl 5 (by decide) (List.mem_of_getElem? (i := 26) rfl) rfl tyX3_ok nmX3 rfl (ty := .int) rfl rfl rfl (by show 5 < 17; decide) (fun cy b => by rw [eS31]; exact wSt_3_5 cy _ (hXS27 _ _ (hXS22 _ _ w20.2)).2 _ b) (by rw [eS31]) dX11_carry_119 ?_
        have hWS31 : wkWF S31 := by rw [eS31]; exact hWS27
        have hXS31 : wkExt S27 S31 := by rw [eS31]; exact wkExt.rf
        refine wk_aload_n C dX11_carry_122 rfl rfl ?_
        refine wk_bipush C (v := 121) dX11_carry_123 (by decide) ?_
        refine wk_aload_n C dX11_carry_125 rfl rfl ?_
        refine wk_get C (v := .int (gWitnessworks_entryCount S31 l0A)) huX11_carry_11 (hXS31 _ _ (hXS27 _ _ (hXS22 _ _ (hXS13 _ _ (hXS7 _ _ (hXS2 _ _ hl0A)))))).1 (fun cy => wAt_11 cy _ (hXS31 _ _ (hXS27 _ _ (hXS22 _ _ (hXS13 _ _ (hXS7 _ _ (hXS2 _ _ hl0A)))))).2) rfl 2 (by decide) (List.mem_of_getElem? (i := 15) rfl) rfl rfl dX11_carry_126 ?_
        refine wk_callV C hR (As := [.int (121 : Int32), .int (gWitnessworks_entryCount S31 l0A)]) (cnt := 2) (tX11_remember (l := l) hWS31 (hXS31 _ _ (hXS27 _ _ (hXS22 _ _ (hXS13 _ _ (hXS7 _ _ (hXS2 _ _ hl0A)))))) h) rfl (wkGoodV (List.mem_of_getElem? (i := 27) rfl) (List.mem_of_getElem? (i := 28) rfl) (List.mem_of_getElem? (i := 29) rfl) (List.mem_of_getElem? (i := 4) rfl) hbX11_carry_X11_remember gdX11_remember) (Nat.le_trans (by decide : 2 + 1 ≤ 56) hd) (by decide) (hXS31 _ _ (hXS27 _ _ (hXS22 _ _ (hXS13 _ _ (hXS7 _ _ (hXS2 _ _ hl0A)))))).1 (fun cy => wAt_11 cy _ (hXS31 _ _ (hXS27 _ _ (hXS22 _ _ (hXS13 _ _ (hXS7 _ _ (hXS2 _ _ hl0A)))))).2) rfl ⟨by decide, by decide, by decide +kernel⟩ rfl rfl (Nat.le_of_ble_eq_true rfl) hk4 hn5 dX11_carry_129 (fun v' S33 hp => ?_)
        obtain ⟨v32, rfl, h, hWS33, hXS33⟩ := hp
        refine wk_aload_n C dX11_carry_132 rfl rfl ?_
        refine wk_dup C dX11_carry_133 rfl ?_
        refine wk_get C (v := .int (gWitnessworks_entryCount S33 l0A)) huX11_carry_11 (hXS33 _ _ (hXS31 _ _ (hXS27 _ _ (hXS22 _ _ (hXS13 _ _ (hXS7 _ _ (hXS2 _ _ hl0A))))))).1 (fun cy => wAt_11 cy _ (hXS33 _ _ (hXS31 _ _ (hXS27 _ _ (hXS22 _ _ (hXS13 _ _ (hXS7 _ _ (hXS2 _ _ hl0A))))))).2) rfl 2 (by decide) (List.mem_of_getElem? (i := 15) rfl) rfl rfl dX11_carry_134 ?_
        refine wk_iconst C (v := 1) dX11_carry_137 (by decide) ?_
        refine wk_iadd C dX11_carry_138 rfl ?_
        obtain ⟨S37, eS37, h⟩ := wkLt_some h
        refine wk_put C (S' := S37) huX11_carry_11 (hXS33 _ _ (hXS31 _ _ (hXS27 _ _ (hXS22 _ _ (hXS13 _ _ (hXS7 _ _ (hXS2 _ _ hl0A))))))).1 (fun cy => wAt_11 cy _ (hXS33 _ _ (hXS31 _ _ (hXS27 _ _ (hXS22 _ _ (hXS13 _ _ (hXS7 _ _ (hXS2 _ _ hl0A))))))).2) rfl 2 (by decide) (List.mem_of_getElem? (i := 15) rfl) rfl tyX11_ok nmX11 rfl (ty := .int) rfl rfl rfl (by show 2 < 19; decide) (fun cy b => by rw [eS37]; exact wSt_11_2 cy _ (hXS33 _ _ (hXS31 _ _ (hXS27 _ _ (hXS22 _ _ (hXS13 _ _ (hXS7 _ _ (hXS2 _ _ hl0A))))))).2 _ b) (by rw [eS37]) dX11_carry_139 ?_
        have hWS37 : wkWF S37 := by rw [eS37]; exact hWS33
        have hXS37 : wkExt S33 S37 := by rw [eS37]; exact wkExt.rf
        refine wk_aload_n C dX11_carry_142 rfl rfl ?_
        refine wk_get C (v := .int (gWitnessworks_entryCount S37 l0A)) huX11_carry_11 (hXS37 _ _ (hXS33 _ _ (hXS31 _ _ (hXS27 _ _ (hXS22 _ _ (hXS13 _ _ (hXS7 _ _ (hXS2 _ _ hl0A)))))))).1 (fun cy => wAt_11 cy _ (hXS37 _ _ (hXS33 _ _ (hXS31 _ _ (hXS27 _ _ (hXS22 _ _ (hXS13 _ _ (hXS7 _ _ (hXS2 _ _ hl0A)))))))).2) rfl 2 (by decide) (List.mem_of_getElem? (i := 15) rfl) rfl rfl dX11_carry_143 ?_
        refine wk_iconst C (v := 1) dX11_carry_146 (by decide) ?_
        refine wk_isub C dX11_carry_147 rfl ?_
        exact E _ _ _ _ _ _ hk4 hn5 dX11_carry_148 ⟨((gWitnessworks_entryCount S37 l0A) - (1 : Int32)), rfl, h, hWS37, (wkExt.tr (wkExt.tr (wkExt.tr (wkExt.tr (wkExt.tr (wkExt.tr (wkExt.tr (wkExt.tr hE hXS2) hXS7) hXS13) hXS22) hXS27) hXS31) hXS33) hXS37)⟩
      · rw [if_neg c18] at h
        obtain ⟨t38a, t38b, h⟩ := h
        exact ET _ _ _ _ _ _ (90, 92, 94, "java/lang/IllegalStateException", "the book is full") (by decide +kernel) (Nat.le_of_ble_eq_true rfl) (Or.inl ⟨dX11_carry_65, dX11_carry_68, dX11_carry_69, dX11_carry_71, dX11_carry_74⟩) ⟨h, hWS13, (wkExt.tr (wkExt.tr (wkExt.tr hE hXS2) hXS7) hXS13)⟩ t38a t38b
    · rw [if_pos c17] at h
      obtain ⟨t39a, t39b, h⟩ := h
      exact ET _ _ _ _ _ _ (166, 182, 170, "java/lang/UnsupportedOperationException", "it cannot be carried over") (by decide +kernel) (Nat.le_of_ble_eq_true rfl) (Or.inl ⟨dX11_carry_46, dX11_carry_49, dX11_carry_50, dX11_carry_52, dX11_carry_55⟩) ⟨h, hWS13, (wkExt.tr (wkExt.tr (wkExt.tr hE hXS2) hXS7) hXS13)⟩ t39a t39b
  · rw [if_neg c11] at h
    obtain ⟨t40a, t40b, h⟩ := h
    exact ET _ _ _ _ _ _ (79, 176, 83, "java/lang/IllegalArgumentException", "no such kind") (by decide +kernel) (Nat.le_of_ble_eq_true rfl) (Or.inl ⟨dX11_carry_19, dX11_carry_22, dX11_carry_23, dX11_carry_25, dX11_carry_28⟩) ⟨h, hWS7, (wkExt.tr (wkExt.tr hE hXS2) hXS7)⟩ t40a t40b
