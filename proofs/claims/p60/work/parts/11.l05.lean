def wvL_open : List Cond := .codeWith yL_open cL_open 5 (some .long) [(0, 8, 9, 14), (0, 8, 15, 20)] :: (([.constantLong RL 18 (-4000000000000000001), .constantLong RL 22 (-4000000000000000002), .methodLink RL 8 yX11_open, .instanceMethod yX11_open, .selects RX11 yX11_open yX11_open, .initialized RX11, .classLink RL 14 "java/lang/IllegalArgumentException", .classLink RL 20 "java/lang/IllegalStateException"] : List Cond) ++ (([]) ++ (wvX11_open)))
theorem hbL_open_X11_open : ∀ w ∈ wvX11_open, w ∈ wvL_open := fun w h => List.mem_cons_of_mem _ (List.mem_append_right _ (List.mem_append_right _ h))
theorem gdL_open : ∀ w ∈ wvL_open, wkGd w := wkGdC rfl (wkGdA (wkGdL (by decide +kernel)) (wkGdA (fun _ h => absurd h List.not_mem_nil) gdX11_open))
def rL_open (G : wkG) (F : Nat) (k n : Nat) (l0A : Nat) (l1I : Int32) (l2I : Int32) (l3I : Int32) (S : wPS) (Φ : (Int64 → wPS → Prop)) : Prop :=
  ∃ k4 n5 : Nat, 0 + k4 ≤ k ∧ 0 + n5 ≤ n ∧ rX11_open F k4 n5 l0A l1I l2I l3I S (fun v1 S2 => Φ (Int32.toInt64 v1) S2) (fun E6 S7 => if E6 = "java/lang/IllegalArgumentException" then (Φ (-4000000000000000001 : Int64) S7) else if E6 = "java/lang/IllegalStateException" then (Φ (-4000000000000000002 : Int64) S7) else False)
set_option maxHeartbeats 4000000 in
set_option maxRecDepth 100000 in
theorem tL_open {l : Launch} {g : wkG} {F : Nat} {k n : Nat}  {S : wPS} {l0A : Nat} {l1I : Int32} {l2I : Int32} {l3I : Int32} {Φ : (Int64 → wPS → Prop)} (hst : wkSta g) (hstr : wkStr g) (hcs : wkCast g) (hex : wkExA g) (hlt : l.stackTraces = false) (hW : wkWF S) (hl0A : wkIs S l0A 11) (h : rL_open g F k n l0A l1I l2I l3I S Φ) : wkMet l g yL_open wvL_open 7 k n [.ref l0A, .int l1I, .int l2I, .int l3I] S (fun v' S'' => ∃ v : Int64, v' = some (.long v) ∧ Φ v S'' ∧ wkWF S'' ∧ wkExt S S'') := by
  refine wkMet_ofT (ret := (some .long)) (plainFor_of_name (by decide)) rfl (Nat.le_of_ble_eq_true rfl) (fun X hg C hR hT E => ?_)
  subst hg
  have hE : wkExt S S := wkExt.rf
  have hd : 7 ≤ 7 := Nat.le_refl _
  show wkGo l X 5 0 0 0 S [some (.ref l0A), some (.int l1I), some (.int l2I), some (.int l3I), none] []
  unfold rL_open at h
  refine wk_aload_n C dL_open_0 rfl rfl ?_
  refine wk_iload_n C dL_open_1 rfl rfl ?_
  refine wk_iload_n C dL_open_2 rfl rfl ?_
  refine wk_iload_n C dL_open_3 rfl rfl ?_
  obtain ⟨k4, n5, hk4, hn5, h⟩ := h
  refine wk_callVH C hT hcs hR (As := [.int l1I, .int l2I, .int l3I]) (cnt := 3) (tX11_open (l := l) hst hstr hex hlt hW hl0A h) rfl (wkGoodV (List.mem_of_getElem? (i := 3) rfl) (List.mem_of_getElem? (i := 4) rfl) (List.mem_of_getElem? (i := 5) rfl) (List.mem_of_getElem? (i := 6) rfl) hbL_open_X11_open gdX11_open) (Nat.le_trans (by decide : 6 + 1 ≤ 7) hd) (by decide) hl0A.1 (fun cy => wAt_11 cy _ hl0A.2) rfl ⟨by decide, by decide, by decide +kernel⟩ rfl rfl (Nat.le_of_ble_eq_true rfl) hk4 hn5 dL_open_4 (fun E6 S7 hx => ?_) (fun v' S2 hp => ?_)
  · obtain ⟨hx, hWS7, hXS7⟩ := hx
    rcases wkIf hx with ⟨cE, h⟩ | ⟨-, hx⟩
    · subst cE
      refine ⟨[], [(0, 8, 15, 20)], 0, 8, 9, 14, rfl, (fun _ h => absurd h List.not_mem_nil), rfl, by decide, (List.mem_of_getElem? (i := 7) rfl), by decide +kernel, fun q8 => ?_⟩
      refine wk_astore C (lv' := [some (.ref l0A), some (.int l1I), some (.int l2I), some (.int l3I), some (.ref q8)]) dL_open_9 (by decide) rfl ?_
      refine wk_ldc2 C (v := (-4000000000000000001)) (List.mem_of_getElem? (i := 1) rfl) dL_open_11 ?_
      exact E _ _ _ _ _ _ hk4 hn5 dL_open_14 ⟨(-4000000000000000001 : Int64), rfl, h, hWS7, (wkExt.tr hE hXS7)⟩
    · skip
      rcases wkIf hx with ⟨cE, h⟩ | ⟨-, hx⟩
      · subst cE
        refine ⟨[(0, 8, 9, 14)], [], 0, 8, 15, 20, rfl, (List.forall_mem_cons.mpr ⟨⟨by decide, "java/lang/IllegalArgumentException", (List.mem_of_getElem? (i := 7) rfl), by decide +kernel⟩, (fun _ h => absurd h List.not_mem_nil)⟩), rfl, by decide, (List.mem_of_getElem? (i := 8) rfl), by decide +kernel, fun q9 => ?_⟩
        refine wk_astore C (lv' := [some (.ref l0A), some (.int l1I), some (.int l2I), some (.int l3I), some (.ref q9)]) dL_open_15 (by decide) rfl ?_
        refine wk_ldc2 C (v := (-4000000000000000002)) (List.mem_of_getElem? (i := 2) rfl) dL_open_17 ?_
        exact E _ _ _ _ _ _ hk4 hn5 dL_open_20 ⟨(-4000000000000000002 : Int64), rfl, h, hWS7, (wkExt.tr hE hXS7)⟩
      · exact hx.elim
  obtain ⟨v1, rfl, h, hWS2, hXS2⟩ := hp
  refine wk_i2l C dL_open_7 rfl ?_
  exact E _ _ _ _ _ _ hk4 hn5 dL_open_8 ⟨(Int32.toInt64 v1), rfl, h, hWS2, (wkExt.tr hE hXS2)⟩
def wvL_setBound : List Cond := .codeWith yL_setBound cL_setBound 4 (some .long) [(0, 7, 8, 28), (0, 7, 13, 14)] :: (([.constantLong RL 18 (-4000000000000000001), .constantLong RL 22 (-4000000000000000002), .methodLink RL 46 yX11_setBound, .instanceMethod yX11_setBound, .selects RX11 yX11_setBound yX11_setBound, .initialized RX11, .classLink RL 28 "java/lang/IndexOutOfBoundsException", .classLink RL 14 "java/lang/IllegalArgumentException"] : List Cond) ++ (([]) ++ (wvX11_setBound)))
theorem hbL_setBound_X11_setBound : ∀ w ∈ wvX11_setBound, w ∈ wvL_setBound := fun w h => List.mem_cons_of_mem _ (List.mem_append_right _ (List.mem_append_right _ h))
theorem gdL_setBound : ∀ w ∈ wvL_setBound, wkGd w := wkGdC rfl (wkGdA (wkGdL (by decide +kernel)) (wkGdA (fun _ h => absurd h List.not_mem_nil) gdX11_setBound))
def rL_setBound (G : wkG) (F : Nat) (k n : Nat) (l0A : Nat) (l1I : Int32) (l2I : Int32) (S : wPS) (Φ : (Int64 → wPS → Prop)) : Prop :=
  ∃ k4 n5 : Nat, 0 + k4 ≤ k ∧ 0 + n5 ≤ n ∧ rX11_setBound F k4 n5 l0A l1I l2I S (fun v1 S2 => Φ (Int32.toInt64 v1) S2) (fun E6 S7 => if E6 = "java/lang/IndexOutOfBoundsException" then (Φ (-4000000000000000001 : Int64) S7) else if E6 = "java/lang/IllegalArgumentException" then (Φ (-4000000000000000002 : Int64) S7) else False)
set_option maxHeartbeats 4000000 in
set_option maxRecDepth 100000 in
theorem tL_setBound {l : Launch} {g : wkG} {F : Nat} {k n : Nat}  {S : wPS} {l0A : Nat} {l1I : Int32} {l2I : Int32} {Φ : (Int64 → wPS → Prop)} (hst : wkSta g) (hcs : wkCast g) (hex : wkExA g) (hlt : l.stackTraces = false) (hW : wkWF S) (hl0A : wkIs S l0A 11) (h : rL_setBound g F k n l0A l1I l2I S Φ) : wkMet l g yL_setBound wvL_setBound 57 k n [.ref l0A, .int l1I, .int l2I] S (fun v' S'' => ∃ v : Int64, v' = some (.long v) ∧ Φ v S'' ∧ wkWF S'' ∧ wkExt S S'') := by
  refine wkMet_ofT (ret := (some .long)) (plainFor_of_name (by decide)) rfl (Nat.le_of_ble_eq_true rfl) (fun X hg C hR hT E => ?_)
  subst hg
  have hE : wkExt S S := wkExt.rf
  have hd : 57 ≤ 57 := Nat.le_refl _
  show wkGo l X 4 0 0 0 S [some (.ref l0A), some (.int l1I), some (.int l2I), none] []
  unfold rL_setBound at h
  refine wk_aload_n C dL_setBound_0 rfl rfl ?_
  refine wk_iload_n C dL_setBound_1 rfl rfl ?_
  refine wk_iload_n C dL_setBound_2 rfl rfl ?_
  obtain ⟨k4, n5, hk4, hn5, h⟩ := h
  refine wk_callVH C hT hcs hR (As := [.int l1I, .int l2I]) (cnt := 2) (tX11_setBound (l := l) hst hex hlt hW hl0A h) rfl (wkGoodV (List.mem_of_getElem? (i := 3) rfl) (List.mem_of_getElem? (i := 4) rfl) (List.mem_of_getElem? (i := 5) rfl) (List.mem_of_getElem? (i := 6) rfl) hbL_setBound_X11_setBound gdX11_setBound) (Nat.le_trans (by decide : 56 + 1 ≤ 57) hd) (by decide) hl0A.1 (fun cy => wAt_11 cy _ hl0A.2) rfl ⟨by decide, by decide, by decide +kernel⟩ rfl rfl (Nat.le_of_ble_eq_true rfl) hk4 hn5 dL_setBound_3 (fun E6 S7 hx => ?_) (fun v' S2 hp => ?_)
  · obtain ⟨hx, hWS7, hXS7⟩ := hx
    rcases wkIf hx with ⟨cE, h⟩ | ⟨-, hx⟩
    · subst cE
      refine ⟨[], [(0, 7, 13, 14)], 0, 7, 8, 28, rfl, (fun _ h => absurd h List.not_mem_nil), rfl, by decide, (List.mem_of_getElem? (i := 7) rfl), by decide +kernel, fun q8 => ?_⟩
      refine wk_astore_n C (lv' := [some (.ref l0A), some (.int l1I), some (.int l2I), some (.ref q8)]) dL_setBound_8 rfl (by decide) rfl ?_
      refine wk_ldc2 C (v := (-4000000000000000001)) (List.mem_of_getElem? (i := 1) rfl) dL_setBound_9 ?_
      exact E _ _ _ _ _ _ hk4 hn5 dL_setBound_12 ⟨(-4000000000000000001 : Int64), rfl, h, hWS7, (wkExt.tr hE hXS7)⟩
    · skip
      rcases wkIf hx with ⟨cE, h⟩ | ⟨-, hx⟩
      · subst cE
        refine ⟨[(0, 7, 8, 28)], [], 0, 7, 13, 14, rfl, (List.forall_mem_cons.mpr ⟨⟨by decide, "java/lang/IndexOutOfBoundsException", (List.mem_of_getElem? (i := 7) rfl), by decide +kernel⟩, (fun _ h => absurd h List.not_mem_nil)⟩), rfl, by decide, (List.mem_of_getElem? (i := 8) rfl), by decide +kernel, fun q9 => ?_⟩
        refine wk_astore_n C (lv' := [some (.ref l0A), some (.int l1I), some (.int l2I), some (.ref q9)]) dL_setBound_13 rfl (by decide) rfl ?_
        refine wk_ldc2 C (v := (-4000000000000000002)) (List.mem_of_getElem? (i := 2) rfl) dL_setBound_14 ?_
        exact E _ _ _ _ _ _ hk4 hn5 dL_setBound_17 ⟨(-4000000000000000002 : Int64), rfl, h, hWS7, (wkExt.tr hE hXS7)⟩
      · exact hx.elim
  obtain ⟨v1, rfl, h, hWS2, hXS2⟩ := hp
  refine wk_i2l C dL_setBound_6 rfl ?_
  exact E _ _ _ _ _ _ hk4 hn5 dL_setBound_7 ⟨(Int32.toInt64 v1), rfl, h, hWS2, (wkExt.tr hE hXS2)⟩
def wvL_lean : List Cond := .codeWith yL_lean cL_lean 5 (some .long) [(0, 8, 9, 28), (0, 8, 15, 14), (0, 8, 21, 30)] :: (([.constantLong RL 18 (-4000000000000000001), .constantLong RL 22 (-4000000000000000002), .constantLong RL 32 (-4000000000000000003), .methodLink RL 49 yX11_lean, .instanceMethod yX11_lean, .selects RX11 yX11_lean yX11_lean, .initialized RX11, .classLink RL 28 "java/lang/IndexOutOfBoundsException", .classLink RL 14 "java/lang/IllegalArgumentException", .classLink RL 30 "java/lang/UnsupportedOperationException"] : List Cond) ++ (([]) ++ (wvX11_lean)))
theorem hbL_lean_X11_lean : ∀ w ∈ wvX11_lean, w ∈ wvL_lean := fun w h => List.mem_cons_of_mem _ (List.mem_append_right _ (List.mem_append_right _ h))
theorem gdL_lean : ∀ w ∈ wvL_lean, wkGd w := wkGdC rfl (wkGdA (wkGdL (by decide +kernel)) (wkGdA (fun _ h => absurd h List.not_mem_nil) gdX11_lean))
def rL_lean (G : wkG) (F : Nat) (k n : Nat) (l0A : Nat) (l1I : Int32) (l2I : Int32) (l3I : Int32) (S : wPS) (Φ : (Int64 → wPS → Prop)) : Prop :=
  ∃ k4 n5 : Nat, 0 + k4 ≤ k ∧ 0 + n5 ≤ n ∧ rX11_lean F k4 n5 l0A l1I l2I l3I S (fun v1 S2 => Φ (Int32.toInt64 v1) S2) (fun E6 S7 => if E6 = "java/lang/IndexOutOfBoundsException" then (Φ (-4000000000000000001 : Int64) S7) else if E6 = "java/lang/IllegalArgumentException" then (Φ (-4000000000000000002 : Int64) S7) else if E6 = "java/lang/UnsupportedOperationException" then (Φ (-4000000000000000003 : Int64) S7) else False)
set_option maxHeartbeats 4000000 in
set_option maxRecDepth 100000 in
theorem tL_lean {l : Launch} {g : wkG} {F : Nat} {k n : Nat}  {S : wPS} {l0A : Nat} {l1I : Int32} {l2I : Int32} {l3I : Int32} {Φ : (Int64 → wPS → Prop)} (hst : wkSta g) (hcs : wkCast g) (hex : wkExA g) (hlt : l.stackTraces = false) (hW : wkWF S) (hl0A : wkIs S l0A 11) (h : rL_lean g F k n l0A l1I l2I l3I S Φ) : wkMet l g yL_lean wvL_lean 57 k n [.ref l0A, .int l1I, .int l2I, .int l3I] S (fun v' S'' => ∃ v : Int64, v' = some (.long v) ∧ Φ v S'' ∧ wkWF S'' ∧ wkExt S S'') := by
  refine wkMet_ofT (ret := (some .long)) (plainFor_of_name (by decide)) rfl (Nat.le_of_ble_eq_true rfl) (fun X hg C hR hT E => ?_)
  subst hg
  have hE : wkExt S S := wkExt.rf
  have hd : 57 ≤ 57 := Nat.le_refl _
  show wkGo l X 5 0 0 0 S [some (.ref l0A), some (.int l1I), some (.int l2I), some (.int l3I), none] []
  unfold rL_lean at h
  refine wk_aload_n C dL_lean_0 rfl rfl ?_
  refine wk_iload_n C dL_lean_1 rfl rfl ?_
  refine wk_iload_n C dL_lean_2 rfl rfl ?_
  refine wk_iload_n C dL_lean_3 rfl rfl ?_
  obtain ⟨k4, n5, hk4, hn5, h⟩ := h
  refine wk_callVH C hT hcs hR (As := [.int l1I, .int l2I, .int l3I]) (cnt := 3) (tX11_lean (l := l) hst hex hlt hW hl0A h) rfl (wkGoodV (List.mem_of_getElem? (i := 4) rfl) (List.mem_of_getElem? (i := 5) rfl) (List.mem_of_getElem? (i := 6) rfl) (List.mem_of_getElem? (i := 7) rfl) hbL_lean_X11_lean gdX11_lean) (Nat.le_trans (by decide : 56 + 1 ≤ 57) hd) (by decide) hl0A.1 (fun cy => wAt_11 cy _ hl0A.2) rfl ⟨by decide, by decide, by decide +kernel⟩ rfl rfl (Nat.le_of_ble_eq_true rfl) hk4 hn5 dL_lean_4 (fun E6 S7 hx => ?_) (fun v' S2 hp => ?_)
  · obtain ⟨hx, hWS7, hXS7⟩ := hx
    rcases wkIf hx with ⟨cE, h⟩ | ⟨-, hx⟩
    · subst cE
      refine ⟨[], [(0, 8, 15, 14), (0, 8, 21, 30)], 0, 8, 9, 28, rfl, (fun _ h => absurd h List.not_mem_nil), rfl, by decide, (List.mem_of_getElem? (i := 8) rfl), by decide +kernel, fun q8 => ?_⟩
      refine wk_astore C (lv' := [some (.ref l0A), some (.int l1I), some (.int l2I), some (.int l3I), some (.ref q8)]) dL_lean_9 (by decide) rfl ?_
      refine wk_ldc2 C (v := (-4000000000000000001)) (List.mem_of_getElem? (i := 1) rfl) dL_lean_11 ?_
      exact E _ _ _ _ _ _ hk4 hn5 dL_lean_14 ⟨(-4000000000000000001 : Int64), rfl, h, hWS7, (wkExt.tr hE hXS7)⟩
    · skip
      rcases wkIf hx with ⟨cE, h⟩ | ⟨-, hx⟩
      · subst cE
        refine ⟨[(0, 8, 9, 28)], [(0, 8, 21, 30)], 0, 8, 15, 14, rfl, (List.forall_mem_cons.mpr ⟨⟨by decide, "java/lang/IndexOutOfBoundsException", (List.mem_of_getElem? (i := 8) rfl), by decide +kernel⟩, (fun _ h => absurd h List.not_mem_nil)⟩), rfl, by decide, (List.mem_of_getElem? (i := 9) rfl), by decide +kernel, fun q9 => ?_⟩
        refine wk_astore C (lv' := [some (.ref l0A), some (.int l1I), some (.int l2I), some (.int l3I), some (.ref q9)]) dL_lean_15 (by decide) rfl ?_
        refine wk_ldc2 C (v := (-4000000000000000002)) (List.mem_of_getElem? (i := 2) rfl) dL_lean_17 ?_
        exact E _ _ _ _ _ _ hk4 hn5 dL_lean_20 ⟨(-4000000000000000002 : Int64), rfl, h, hWS7, (wkExt.tr hE hXS7)⟩
      · skip
        rcases wkIf hx with ⟨cE, h⟩ | ⟨-, hx⟩
        · subst cE
          refine ⟨[(0, 8, 9, 28), (0, 8, 15, 14)], [], 0, 8, 21, 30, rfl, (List.forall_mem_cons.mpr ⟨⟨by decide, "java/lang/IndexOutOfBoundsException", (List.mem_of_getElem? (i := 8) rfl), by decide +kernel⟩, (List.forall_mem_cons.mpr ⟨⟨by decide, "java/lang/IllegalArgumentException", (List.mem_of_getElem? (i := 9) rfl), by decide +kernel⟩, (fun _ h => absurd h List.not_mem_nil)⟩)⟩), rfl, by decide, (List.mem_of_getElem? (i := 10) rfl), by decide +kernel, fun q10 => ?_⟩
          refine wk_astore C (lv' := [some (.ref l0A), some (.int l1I), some (.int l2I), some (.int l3I), some (.ref q10)]) dL_lean_21 (by decide) rfl ?_
          refine wk_ldc2 C (v := (-4000000000000000003)) (List.mem_of_getElem? (i := 3) rfl) dL_lean_23 ?_
          exact E _ _ _ _ _ _ hk4 hn5 dL_lean_26 ⟨(-4000000000000000003 : Int64), rfl, h, hWS7, (wkExt.tr hE hXS7)⟩
        · exact hx.elim
  obtain ⟨v1, rfl, h, hWS2, hXS2⟩ := hp
  refine wk_i2l C dL_lean_7 rfl ?_
  exact E _ _ _ _ _ _ hk4 hn5 dL_lean_8 ⟨(Int32.toInt64 v1), rfl, h, hWS2, (wkExt.tr hE hXS2)⟩
def wvL_stand : List Cond := .codeWith yL_stand cL_stand 3 (some .long) [(0, 6, 7, 28), (0, 6, 12, 30)] :: (([.constantLong RL 18 (-4000000000000000001), .constantLong RL 22 (-4000000000000000002), .methodLink RL 53 yX11_stand, .instanceMethod yX11_stand, .selects RX11 yX11_stand yX11_stand, .initialized RX11, .classLink RL 28 "java/lang/IndexOutOfBoundsException", .classLink RL 30 "java/lang/UnsupportedOperationException"] : List Cond) ++ (([]) ++ (wvX11_stand)))
theorem hbL_stand_X11_stand : ∀ w ∈ wvX11_stand, w ∈ wvL_stand := fun w h => List.mem_cons_of_mem _ (List.mem_append_right _ (List.mem_append_right _ h))
theorem gdL_stand : ∀ w ∈ wvL_stand, wkGd w := wkGdC rfl (wkGdA (wkGdL (by decide +kernel)) (wkGdA (fun _ h => absurd h List.not_mem_nil) gdX11_stand))
def rL_stand (G : wkG) (F : Nat) (k n : Nat) (l0A : Nat) (l1I : Int32) (S : wPS) (Φ : (Int64 → wPS → Prop)) : Prop :=
  ∃ k4 n5 : Nat, 0 + k4 ≤ k ∧ 0 + n5 ≤ n ∧ rX11_stand F k4 n5 l0A l1I S (fun v1 S2 => Φ (Int32.toInt64 v1) S2) (fun E6 S7 => if E6 = "java/lang/IndexOutOfBoundsException" then (Φ (-4000000000000000001 : Int64) S7) else if E6 = "java/lang/UnsupportedOperationException" then (Φ (-4000000000000000002 : Int64) S7) else False)
set_option maxHeartbeats 4000000 in
set_option maxRecDepth 100000 in
theorem tL_stand {l : Launch} {g : wkG} {F : Nat} {k n : Nat}  {S : wPS} {l0A : Nat} {l1I : Int32} {Φ : (Int64 → wPS → Prop)} (hst : wkSta g) (hcs : wkCast g) (hex : wkExA g) (hlt : l.stackTraces = false) (hW : wkWF S) (hl0A : wkIs S l0A 11) (h : rL_stand g F k n l0A l1I S Φ) : wkMet l g yL_stand wvL_stand 57 k n [.ref l0A, .int l1I] S (fun v' S'' => ∃ v : Int64, v' = some (.long v) ∧ Φ v S'' ∧ wkWF S'' ∧ wkExt S S'') := by
  refine wkMet_ofT (ret := (some .long)) (plainFor_of_name (by decide)) rfl (Nat.le_of_ble_eq_true rfl) (fun X hg C hR hT E => ?_)
  subst hg
  have hE : wkExt S S := wkExt.rf
  have hd : 57 ≤ 57 := Nat.le_refl _
  show wkGo l X 3 0 0 0 S [some (.ref l0A), some (.int l1I), none] []
  unfold rL_stand at h
  refine wk_aload_n C dL_stand_0 rfl rfl ?_
  refine wk_iload_n C dL_stand_1 rfl rfl ?_
  obtain ⟨k4, n5, hk4, hn5, h⟩ := h
  refine wk_callVH C hT hcs hR (As := [.int l1I]) (cnt := 1) (tX11_stand (l := l) hst hex hlt hW hl0A h) rfl (wkGoodV (List.mem_of_getElem? (i := 3) rfl) (List.mem_of_getElem? (i := 4) rfl) (List.mem_of_getElem? (i := 5) rfl) (List.mem_of_getElem? (i := 6) rfl) hbL_stand_X11_stand gdX11_stand) (Nat.le_trans (by decide : 56 + 1 ≤ 57) hd) (by decide) hl0A.1 (fun cy => wAt_11 cy _ hl0A.2) rfl ⟨by decide, by decide, by decide +kernel⟩ rfl rfl (Nat.le_of_ble_eq_true rfl) hk4 hn5 dL_stand_2 (fun E6 S7 hx => ?_) (fun v' S2 hp => ?_)
  · obtain ⟨hx, hWS7, hXS7⟩ := hx
    rcases wkIf hx with ⟨cE, h⟩ | ⟨-, hx⟩
    · subst cE
      refine ⟨[], [(0, 6, 12, 30)], 0, 6, 7, 28, rfl, (fun _ h => absurd h List.not_mem_nil), rfl, by decide, (List.mem_of_getElem? (i := 7) rfl), by decide +kernel, fun q8 => ?_⟩
      refine wk_astore_n C (lv' := [some (.ref l0A), some (.int l1I), some (.ref q8)]) dL_stand_7 rfl (by decide) rfl ?_
      refine wk_ldc2 C (v := (-4000000000000000001)) (List.mem_of_getElem? (i := 1) rfl) dL_stand_8 ?_
      exact E _ _ _ _ _ _ hk4 hn5 dL_stand_11 ⟨(-4000000000000000001 : Int64), rfl, h, hWS7, (wkExt.tr hE hXS7)⟩
    · skip
      rcases wkIf hx with ⟨cE, h⟩ | ⟨-, hx⟩
      · subst cE
        refine ⟨[(0, 6, 7, 28)], [], 0, 6, 12, 30, rfl, (List.forall_mem_cons.mpr ⟨⟨by decide, "java/lang/IndexOutOfBoundsException", (List.mem_of_getElem? (i := 7) rfl), by decide +kernel⟩, (fun _ h => absurd h List.not_mem_nil)⟩), rfl, by decide, (List.mem_of_getElem? (i := 8) rfl), by decide +kernel, fun q9 => ?_⟩
        refine wk_astore_n C (lv' := [some (.ref l0A), some (.int l1I), some (.ref q9)]) dL_stand_12 rfl (by decide) rfl ?_
        refine wk_ldc2 C (v := (-4000000000000000002)) (List.mem_of_getElem? (i := 2) rfl) dL_stand_13 ?_
        exact E _ _ _ _ _ _ hk4 hn5 dL_stand_16 ⟨(-4000000000000000002 : Int64), rfl, h, hWS7, (wkExt.tr hE hXS7)⟩
      · exact hx.elim
  obtain ⟨v1, rfl, h, hWS2, hXS2⟩ := hp
  refine wk_i2l C dL_stand_5 rfl ?_
  exact E _ _ _ _ _ _ hk4 hn5 dL_stand_6 ⟨(Int32.toInt64 v1), rfl, h, hWS2, (wkExt.tr hE hXS2)⟩
def wvL_carry : List Cond := .codeWith yL_carry cL_carry 4 (some .long) [(0, 7, 8, 28), (0, 7, 13, 14), (0, 7, 18, 30), (0, 7, 23, 20)] :: (([.constantLong RL 18 (-4000000000000000001), .constantLong RL 22 (-4000000000000000002), .constantLong RL 32 (-4000000000000000003), .constantLong RL 34 (-4000000000000000004), .methodLink RL 57 yX11_carry, .instanceMethod yX11_carry, .selects RX11 yX11_carry yX11_carry, .initialized RX11, .classLink RL 28 "java/lang/IndexOutOfBoundsException", .classLink RL 14 "java/lang/IllegalArgumentException", .classLink RL 30 "java/lang/UnsupportedOperationException", .classLink RL 20 "java/lang/IllegalStateException"] : List Cond) ++ (([]) ++ (wvX11_carry)))
theorem hbL_carry_X11_carry : ∀ w ∈ wvX11_carry, w ∈ wvL_carry := fun w h => List.mem_cons_of_mem _ (List.mem_append_right _ (List.mem_append_right _ h))
theorem gdL_carry : ∀ w ∈ wvL_carry, wkGd w := wkGdC rfl (wkGdA (wkGdL (by decide +kernel)) (wkGdA (fun _ h => absurd h List.not_mem_nil) gdX11_carry))
def rL_carry (G : wkG) (F : Nat) (k n : Nat) (l0A : Nat) (l1I : Int32) (l2I : Int32) (S : wPS) (Φ : (Int64 → wPS → Prop)) : Prop :=
  ∃ k4 n5 : Nat, 0 + k4 ≤ k ∧ 0 + n5 ≤ n ∧ rX11_carry F k4 n5 l0A l1I l2I S (fun v1 S2 => Φ (Int32.toInt64 v1) S2) (fun E6 S7 => if E6 = "java/lang/IndexOutOfBoundsException" then (Φ (-4000000000000000001 : Int64) S7) else if E6 = "java/lang/IllegalArgumentException" then (Φ (-4000000000000000002 : Int64) S7) else if E6 = "java/lang/UnsupportedOperationException" then (Φ (-4000000000000000003 : Int64) S7) else if E6 = "java/lang/IllegalStateException" then (Φ (-4000000000000000004 : Int64) S7) else False)
set_option maxHeartbeats 4000000 in
set_option maxRecDepth 100000 in
theorem tL_carry {l : Launch} {g : wkG} {F : Nat} {k n : Nat}  {S : wPS} {l0A : Nat} {l1I : Int32} {l2I : Int32} {Φ : (Int64 → wPS → Prop)} (hst : wkSta g) (hstr : wkStr g) (hcs : wkCast g) (hex : wkExA g) (hlt : l.stackTraces = false) (hW : wkWF S) (hl0A : wkIs S l0A 11) (h : rL_carry g F k n l0A l1I l2I S Φ) : wkMet l g yL_carry wvL_carry 57 k n [.ref l0A, .int l1I, .int l2I] S (fun v' S'' => ∃ v : Int64, v' = some (.long v) ∧ Φ v S'' ∧ wkWF S'' ∧ wkExt S S'') := by
  refine wkMet_ofT (ret := (some .long)) (plainFor_of_name (by decide)) rfl (Nat.le_of_ble_eq_true rfl) (fun X hg C hR hT E => ?_)
  subst hg
  have hE : wkExt S S := wkExt.rf
  have hd : 57 ≤ 57 := Nat.le_refl _
  show wkGo l X 4 0 0 0 S [some (.ref l0A), some (.int l1I), some (.int l2I), none] []
  unfold rL_carry at h
  refine wk_aload_n C dL_carry_0 rfl rfl ?_
  refine wk_iload_n C dL_carry_1 rfl rfl ?_
  refine wk_iload_n C dL_carry_2 rfl rfl ?_
  obtain ⟨k4, n5, hk4, hn5, h⟩ := h
  refine wk_callVH C hT hcs hR (As := [.int l1I, .int l2I]) (cnt := 2) (tX11_carry (l := l) hst hstr hex hlt hW hl0A h) rfl (wkGoodV (List.mem_of_getElem? (i := 5) rfl) (List.mem_of_getElem? (i := 6) rfl) (List.mem_of_getElem? (i := 7) rfl) (List.mem_of_getElem? (i := 8) rfl) hbL_carry_X11_carry gdX11_carry) (Nat.le_trans (by decide : 56 + 1 ≤ 57) hd) (by decide) hl0A.1 (fun cy => wAt_11 cy _ hl0A.2) rfl ⟨by decide, by decide, by decide +kernel⟩ rfl rfl (Nat.le_of_ble_eq_true rfl) hk4 hn5 dL_carry_3 (fun E6 S7 hx => ?_) (fun v' S2 hp => ?_)
  · obtain ⟨hx, hWS7, hXS7⟩ := hx
    rcases wkIf hx with ⟨cE, h⟩ | ⟨-, hx⟩
    · subst cE
      refine ⟨[], [(0, 7, 13, 14), (0, 7, 18, 30), (0, 7, 23, 20)], 0, 7, 8, 28, rfl, (fun _ h => absurd h List.not_mem_nil), rfl, by decide, (List.mem_of_getElem? (i := 9) rfl), by decide +kernel, fun q8 => ?_⟩
      refine wk_astore_n C (lv' := [some (.ref l0A), some (.int l1I), some (.int l2I), some (.ref q8)]) dL_carry_8 rfl (by decide) rfl ?_
      refine wk_ldc2 C (v := (-4000000000000000001)) (List.mem_of_getElem? (i := 1) rfl) dL_carry_9 ?_
      exact E _ _ _ _ _ _ hk4 hn5 dL_carry_12 ⟨(-4000000000000000001 : Int64), rfl, h, hWS7, (wkExt.tr hE hXS7)⟩
    · skip
      rcases wkIf hx with ⟨cE, h⟩ | ⟨-, hx⟩
      · subst cE
        refine ⟨[(0, 7, 8, 28)], [(0, 7, 18, 30), (0, 7, 23, 20)], 0, 7, 13, 14, rfl, (List.forall_mem_cons.mpr ⟨⟨by decide, "java/lang/IndexOutOfBoundsException", (List.mem_of_getElem? (i := 9) rfl), by decide +kernel⟩, (fun _ h => absurd h List.not_mem_nil)⟩), rfl, by decide, (List.mem_of_getElem? (i := 10) rfl), by decide +kernel, fun q9 => ?_⟩
        refine wk_astore_n C (lv' := [some (.ref l0A), some (.int l1I), some (.int l2I), some (.ref q9)]) dL_carry_13 rfl (by decide) rfl ?_
        refine wk_ldc2 C (v := (-4000000000000000002)) (List.mem_of_getElem? (i := 2) rfl) dL_carry_14 ?_
        exact E _ _ _ _ _ _ hk4 hn5 dL_carry_17 ⟨(-4000000000000000002 : Int64), rfl, h, hWS7, (wkExt.tr hE hXS7)⟩
      · skip
        rcases wkIf hx with ⟨cE, h⟩ | ⟨-, hx⟩
        · subst cE
          refine ⟨[(0, 7, 8, 28), (0, 7, 13, 14)], [(0, 7, 23, 20)], 0, 7, 18, 30, rfl, (List.forall_mem_cons.mpr ⟨⟨by decide, "java/lang/IndexOutOfBoundsException", (List.mem_of_getElem? (i := 9) rfl), by decide +kernel⟩, (List.forall_mem_cons.mpr ⟨⟨by decide, "java/lang/IllegalArgumentException", (List.mem_of_getElem? (i := 10) rfl), by decide +kernel⟩, (fun _ h => absurd h List.not_mem_nil)⟩)⟩), rfl, by decide, (List.mem_of_getElem? (i := 11) rfl), by decide +kernel, fun q10 => ?_⟩
          refine wk_astore_n C (lv' := [some (.ref l0A), some (.int l1I), some (.int l2I), some (.ref q10)]) dL_carry_18 rfl (by decide) rfl ?_
          refine wk_ldc2 C (v := (-4000000000000000003)) (List.mem_of_getElem? (i := 3) rfl) dL_carry_19 ?_
          exact E _ _ _ _ _ _ hk4 hn5 dL_carry_22 ⟨(-4000000000000000003 : Int64), rfl, h, hWS7, (wkExt.tr hE hXS7)⟩
        · skip
          rcases wkIf hx with ⟨cE, h⟩ | ⟨-, hx⟩
          · subst cE
            refine ⟨[(0, 7, 8, 28), (0, 7, 13, 14), (0, 7, 18, 30)], [], 0, 7, 23, 20, rfl, (List.forall_mem_cons.mpr ⟨⟨by decide, "java/lang/IndexOutOfBoundsException", (List.mem_of_getElem? (i := 9) rfl), by decide +kernel⟩, (List.forall_mem_cons.mpr ⟨⟨by decide, "java/lang/IllegalArgumentException", (List.mem_of_getElem? (i := 10) rfl), by decide +kernel⟩, (List.forall_mem_cons.mpr ⟨⟨by decide, "java/lang/UnsupportedOperationException", (List.mem_of_getElem? (i := 11) rfl), by decide +kernel⟩, (fun _ h => absurd h List.not_mem_nil)⟩)⟩)⟩), rfl, by decide, (List.mem_of_getElem? (i := 12) rfl), by decide +kernel, fun q11 => ?_⟩
            refine wk_astore_n C (lv' := [some (.ref l0A), some (.int l1I), some (.int l2I), some (.ref q11)]) dL_carry_23 rfl (by decide) rfl ?_
            refine wk_ldc2 C (v := (-4000000000000000004)) (List.mem_of_getElem? (i := 4) rfl) dL_carry_24 ?_
            exact E _ _ _ _ _ _ hk4 hn5 dL_carry_27 ⟨(-4000000000000000004 : Int64), rfl, h, hWS7, (wkExt.tr hE hXS7)⟩
          · exact hx.elim
  obtain ⟨v1, rfl, h, hWS2, hXS2⟩ := hp
  refine wk_i2l C dL_carry_6 rfl ?_
  exact E _ _ _ _ _ _ hk4 hn5 dL_carry_7 ⟨(Int32.toInt64 v1), rfl, h, hWS2, (wkExt.tr hE hXS2)⟩
def wvL_boundOf : List Cond := .codeWith yL_boundOf cL_boundOf 3 (some .long) [(0, 6, 7, 28)] :: (([.constantLong RL 18 (-4000000000000000001), .methodLink RL 76 yX11_boundOf, .instanceMethod yX11_boundOf, .selects RX11 yX11_boundOf yX11_boundOf, .initialized RX11, .classLink RL 28 "java/lang/IndexOutOfBoundsException"] : List Cond) ++ (([]) ++ (wvX11_boundOf)))
theorem hbL_boundOf_X11_boundOf : ∀ w ∈ wvX11_boundOf, w ∈ wvL_boundOf := fun w h => List.mem_cons_of_mem _ (List.mem_append_right _ (List.mem_append_right _ h))
theorem gdL_boundOf : ∀ w ∈ wvL_boundOf, wkGd w := wkGdC rfl (wkGdA (wkGdL (by decide +kernel)) (wkGdA (fun _ h => absurd h List.not_mem_nil) gdX11_boundOf))
def rL_boundOf (G : wkG) (F : Nat) (k n : Nat) (l0A : Nat) (l1I : Int32) (S : wPS) (Φ : (Int64 → wPS → Prop)) : Prop :=
  ∃ k4 n5 : Nat, 0 + k4 ≤ k ∧ 0 + n5 ≤ n ∧ rX11_boundOf F k4 n5 l0A l1I S (fun v1 S2 => Φ (Int32.toInt64 v1) S2) (fun E6 S7 => if E6 = "java/lang/IndexOutOfBoundsException" then (Φ (-4000000000000000001 : Int64) S7) else False)
set_option maxHeartbeats 4000000 in
set_option maxRecDepth 100000 in
theorem tL_boundOf {l : Launch} {g : wkG} {F : Nat} {k n : Nat}  {S : wPS} {l0A : Nat} {l1I : Int32} {Φ : (Int64 → wPS → Prop)} (hst : wkSta g) (hcs : wkCast g) (hex : wkExA g) (hlt : l.stackTraces = false) (hW : wkWF S) (hl0A : wkIs S l0A 11) (h : rL_boundOf g F k n l0A l1I S Φ) : wkMet l g yL_boundOf wvL_boundOf 57 k n [.ref l0A, .int l1I] S (fun v' S'' => ∃ v : Int64, v' = some (.long v) ∧ Φ v S'' ∧ wkWF S'' ∧ wkExt S S'') := by
  refine wkMet_ofT (ret := (some .long)) (plainFor_of_name (by decide)) rfl (Nat.le_of_ble_eq_true rfl) (fun X hg C hR hT E => ?_)
  subst hg
  have hE : wkExt S S := wkExt.rf
  have hd : 57 ≤ 57 := Nat.le_refl _
  show wkGo l X 3 0 0 0 S [some (.ref l0A), some (.int l1I), none] []
  unfold rL_boundOf at h
  refine wk_aload_n C dL_boundOf_0 rfl rfl ?_
  refine wk_iload_n C dL_boundOf_1 rfl rfl ?_
  obtain ⟨k4, n5, hk4, hn5, h⟩ := h
  refine wk_callVH C hT hcs hR (As := [.int l1I]) (cnt := 1) (tX11_boundOf (l := l) hst hex hlt hW hl0A h) rfl (wkGoodV (List.mem_of_getElem? (i := 2) rfl) (List.mem_of_getElem? (i := 3) rfl) (List.mem_of_getElem? (i := 4) rfl) (List.mem_of_getElem? (i := 5) rfl) hbL_boundOf_X11_boundOf gdX11_boundOf) (Nat.le_trans (by decide : 56 + 1 ≤ 57) hd) (by decide) hl0A.1 (fun cy => wAt_11 cy _ hl0A.2) rfl ⟨by decide, by decide, by decide +kernel⟩ rfl rfl (Nat.le_of_ble_eq_true rfl) hk4 hn5 dL_boundOf_2 (fun E6 S7 hx => ?_) (fun v' S2 hp => ?_)
  · obtain ⟨hx, hWS7, hXS7⟩ := hx
    rcases wkIf hx with ⟨cE, h⟩ | ⟨-, hx⟩
    · subst cE
      refine ⟨[], [], 0, 6, 7, 28, rfl, (fun _ h => absurd h List.not_mem_nil), rfl, by decide, (List.mem_of_getElem? (i := 6) rfl), by decide +kernel, fun q8 => ?_⟩
      refine wk_astore_n C (lv' := [some (.ref l0A), some (.int l1I), some (.ref q8)]) dL_boundOf_7 rfl (by decide) rfl ?_
      refine wk_ldc2 C (v := (-4000000000000000001)) (List.mem_of_getElem? (i := 1) rfl) dL_boundOf_8 ?_
      exact E _ _ _ _ _ _ hk4 hn5 dL_boundOf_11 ⟨(-4000000000000000001 : Int64), rfl, h, hWS7, (wkExt.tr hE hXS7)⟩
    · exact hx.elim
  obtain ⟨v1, rfl, h, hWS2, hXS2⟩ := hp
  refine wk_i2l C dL_boundOf_5 rfl ?_
  exact E _ _ _ _ _ _ hk4 hn5 dL_boundOf_6 ⟨(Int32.toInt64 v1), rfl, h, hWS2, (wkExt.tr hE hXS2)⟩
def wvL_answer : List Cond := .codeWith yL_answer cL_answer 3 (some .long) [(0, 6, 7, 28)] :: (([.constantLong RL 18 (-4000000000000000001), .methodLink RL 88 yX11_answer, .instanceMethod yX11_answer, .selects RX11 yX11_answer yX11_answer, .initialized RX11, .classLink RL 28 "java/lang/IndexOutOfBoundsException"] : List Cond) ++ (([]) ++ (wvX11_answer)))
theorem hbL_answer_X11_answer : ∀ w ∈ wvX11_answer, w ∈ wvL_answer := fun w h => List.mem_cons_of_mem _ (List.mem_append_right _ (List.mem_append_right _ h))
theorem gdL_answer : ∀ w ∈ wvL_answer, wkGd w := wkGdC rfl (wkGdA (wkGdL (by decide +kernel)) (wkGdA (fun _ h => absurd h List.not_mem_nil) gdX11_answer))
def rL_answer (G : wkG) (F : Nat) (k n : Nat) (l0A : Nat) (l1I : Int32) (S : wPS) (Φ : (Int64 → wPS → Prop)) : Prop :=
  ∃ k4 n5 : Nat, 0 + k4 ≤ k ∧ 0 + n5 ≤ n ∧ rX11_answer F k4 n5 l0A l1I S (fun v1 S2 => Φ (Int32.toInt64 v1) S2) (fun E6 S7 => if E6 = "java/lang/IndexOutOfBoundsException" then (Φ (-4000000000000000001 : Int64) S7) else False)
set_option maxHeartbeats 4000000 in
set_option maxRecDepth 100000 in
theorem tL_answer {l : Launch} {g : wkG} {F : Nat} {k n : Nat}  {S : wPS} {l0A : Nat} {l1I : Int32} {Φ : (Int64 → wPS → Prop)} (hst : wkSta g) (hcs : wkCast g) (hex : wkExA g) (hlt : l.stackTraces = false) (hW : wkWF S) (hl0A : wkIs S l0A 11) (h : rL_answer g F k n l0A l1I S Φ) : wkMet l g yL_answer wvL_answer 57 k n [.ref l0A, .int l1I] S (fun v' S'' => ∃ v : Int64, v' = some (.long v) ∧ Φ v S'' ∧ wkWF S'' ∧ wkExt S S'') := by
  refine wkMet_ofT (ret := (some .long)) (plainFor_of_name (by decide)) rfl (Nat.le_of_ble_eq_true rfl) (fun X hg C hR hT E => ?_)
  subst hg
  have hE : wkExt S S := wkExt.rf
  have hd : 57 ≤ 57 := Nat.le_refl _
  show wkGo l X 3 0 0 0 S [some (.ref l0A), some (.int l1I), none] []
  unfold rL_answer at h
  refine wk_aload_n C dL_answer_0 rfl rfl ?_
  refine wk_iload_n C dL_answer_1 rfl rfl ?_
  obtain ⟨k4, n5, hk4, hn5, h⟩ := h
  refine wk_callVH C hT hcs hR (As := [.int l1I]) (cnt := 1) (tX11_answer (l := l) hst hex hlt hW hl0A h) rfl (wkGoodV (List.mem_of_getElem? (i := 2) rfl) (List.mem_of_getElem? (i := 3) rfl) (List.mem_of_getElem? (i := 4) rfl) (List.mem_of_getElem? (i := 5) rfl) hbL_answer_X11_answer gdX11_answer) (Nat.le_trans (by decide : 56 + 1 ≤ 57) hd) (by decide) hl0A.1 (fun cy => wAt_11 cy _ hl0A.2) rfl ⟨by decide, by decide, by decide +kernel⟩ rfl rfl (Nat.le_of_ble_eq_true rfl) hk4 hn5 dL_answer_2 (fun E6 S7 hx => ?_) (fun v' S2 hp => ?_)
  · obtain ⟨hx, hWS7, hXS7⟩ := hx
    rcases wkIf hx with ⟨cE, h⟩ | ⟨-, hx⟩
    · subst cE
      refine ⟨[], [], 0, 6, 7, 28, rfl, (fun _ h => absurd h List.not_mem_nil), rfl, by decide, (List.mem_of_getElem? (i := 6) rfl), by decide +kernel, fun q8 => ?_⟩
      refine wk_astore_n C (lv' := [some (.ref l0A), some (.int l1I), some (.ref q8)]) dL_answer_7 rfl (by decide) rfl ?_
      refine wk_ldc2 C (v := (-4000000000000000001)) (List.mem_of_getElem? (i := 1) rfl) dL_answer_8 ?_
      exact E _ _ _ _ _ _ hk4 hn5 dL_answer_11 ⟨(-4000000000000000001 : Int64), rfl, h, hWS7, (wkExt.tr hE hXS7)⟩
    · exact hx.elim
  obtain ⟨v1, rfl, h, hWS2, hXS2⟩ := hp
  refine wk_i2l C dL_answer_5 rfl ?_
  exact E _ _ _ _ _ _ hk4 hn5 dL_answer_6 ⟨(Int32.toInt64 v1), rfl, h, hWS2, (wkExt.tr hE hXS2)⟩
