def wvL_put : List Cond := .codeWith yL_put cL_put 8 (some .long) [(0, 14, 15, 28), (0, 14, 21, 14), (0, 14, 27, 30), (0, 14, 33, 20)] :: (([.constantLong RL 18 (-4000000000000000001), .constantLong RL 22 (-4000000000000000002), .constantLong RL 32 (-4000000000000000003), .constantLong RL 34 (-4000000000000000004), .methodLink RL 24 yX11_put, .instanceMethod yX11_put, .selects RX11 yX11_put yX11_put, .initialized RX11, .classLink RL 28 "java/lang/IndexOutOfBoundsException", .classLink RL 14 "java/lang/IllegalArgumentException", .classLink RL 30 "java/lang/UnsupportedOperationException", .classLink RL 20 "java/lang/IllegalStateException"] : List Cond) ++ (([]) ++ (wvX11_put)))
theorem hbL_put_X11_put : ∀ w ∈ wvX11_put, w ∈ wvL_put := fun w h => List.mem_cons_of_mem _ (List.mem_append_right _ (List.mem_append_right _ h))
theorem gdL_put : ∀ w ∈ wvL_put, wkGd w := wkGdC rfl (wkGdA (wkGdL (by decide +kernel)) (wkGdA (fun _ h => absurd h List.not_mem_nil) gdX11_put))
def rL_put (G : wkG) (F : Nat) (k n : Nat) (l0A : Nat) (l1I : Int32) (l2I : Int32) (l3I : Int32) (l4I : Int32) (l5I : Int32) (l6I : Int32) (S : wPS) (Φ : (Int64 → wPS → Prop)) : Prop :=
  ∃ k4 n5 : Nat, 0 + k4 ≤ k ∧ 0 + n5 ≤ n ∧ rX11_put F k4 n5 l0A l1I l2I l3I l4I l5I l6I S (fun v1 S2 => Φ (Int32.toInt64 v1) S2) (fun E6 S7 => if E6 = "java/lang/IndexOutOfBoundsException" then (Φ (-4000000000000000001 : Int64) S7) else if E6 = "java/lang/IllegalArgumentException" then (Φ (-4000000000000000002 : Int64) S7) else if E6 = "java/lang/UnsupportedOperationException" then (Φ (-4000000000000000003 : Int64) S7) else if E6 = "java/lang/IllegalStateException" then (Φ (-4000000000000000004 : Int64) S7) else False)
set_option maxHeartbeats 4000000 in
set_option maxRecDepth 100000 in
theorem tL_put {l : Launch} {g : wkG} {F : Nat} {k n : Nat}  {S : wPS} {l0A : Nat} {l1I : Int32} {l2I : Int32} {l3I : Int32} {l4I : Int32} {l5I : Int32} {l6I : Int32} {Φ : (Int64 → wPS → Prop)} (hst : wkSta g) (hcs : wkCast g) (hex : wkExA g) (hlt : l.stackTraces = false) (hW : wkWF S) (hl0A : wkIs S l0A 11) (h : rL_put g F k n l0A l1I l2I l3I l4I l5I l6I S Φ) : wkMet l g yL_put wvL_put 8 k n [.ref l0A, .int l1I, .int l2I, .int l3I, .int l4I, .int l5I, .int l6I] S (fun v' S'' => ∃ v : Int64, v' = some (.long v) ∧ Φ v S'' ∧ wkWF S'' ∧ wkExt S S'') := by
  refine wkMet_ofT (ret := (some .long)) (plainFor_of_name (by decide)) rfl (Nat.le_of_ble_eq_true rfl) (fun X hg C hR hT E => ?_)
  subst hg
  have hE : wkExt S S := wkExt.rf
  have hd : 8 ≤ 8 := Nat.le_refl _
  show wkGo l X 8 0 0 0 S [some (.ref l0A), some (.int l1I), some (.int l2I), some (.int l3I), some (.int l4I), some (.int l5I), some (.int l6I), none] []
  unfold rL_put at h
  refine wk_aload_n C dL_put_0 rfl rfl ?_
  refine wk_iload_n C dL_put_1 rfl rfl ?_
  refine wk_iload_n C dL_put_2 rfl rfl ?_
  refine wk_iload_n C dL_put_3 rfl rfl ?_
  refine wk_iload C dL_put_4 rfl ?_
  refine wk_iload C dL_put_6 rfl ?_
  refine wk_iload C dL_put_8 rfl ?_
  obtain ⟨k4, n5, hk4, hn5, h⟩ := h
  refine wk_callVH C hT hcs hR (As := [.int l1I, .int l2I, .int l3I, .int l4I, .int l5I, .int l6I]) (cnt := 6) (tX11_put (l := l) hst hex hlt hW hl0A h) rfl (wkGoodV (List.mem_of_getElem? (i := 5) rfl) (List.mem_of_getElem? (i := 6) rfl) (List.mem_of_getElem? (i := 7) rfl) (List.mem_of_getElem? (i := 8) rfl) hbL_put_X11_put gdX11_put) (Nat.le_trans (by decide : 7 + 1 ≤ 8) hd) (by decide) hl0A.1 (fun cy => wAt_11 cy _ hl0A.2) rfl ⟨by decide, by decide, by decide +kernel⟩ rfl rfl (Nat.le_of_ble_eq_true rfl) hk4 hn5 dL_put_10 (fun E6 S7 hx => ?_) (fun v' S2 hp => ?_)
  · obtain ⟨hx, hWS7, hXS7⟩ := hx
    rcases wkIf hx with ⟨cE, h⟩ | ⟨-, hx⟩
    · subst cE
      refine ⟨[], [(0, 14, 21, 14), (0, 14, 27, 30), (0, 14, 33, 20)], 0, 14, 15, 28, rfl, (fun _ h => absurd h List.not_mem_nil), rfl, by decide, (List.mem_of_getElem? (i := 9) rfl), by decide +kernel, fun q8 => ?_⟩
      refine wk_astore C (lv' := [some (.ref l0A), some (.int l1I), some (.int l2I), some (.int l3I), some (.int l4I), some (.int l5I), some (.int l6I), some (.ref q8)]) dL_put_15 (by decide) rfl ?_
      refine wk_ldc2 C (v := (-4000000000000000001)) (List.mem_of_getElem? (i := 1) rfl) dL_put_17 ?_
      exact E _ _ _ _ _ _ hk4 hn5 dL_put_20 ⟨(-4000000000000000001 : Int64), rfl, h, hWS7, (wkExt.tr hE hXS7)⟩
    · skip
      rcases wkIf hx with ⟨cE, h⟩ | ⟨-, hx⟩
      · subst cE
        refine ⟨[(0, 14, 15, 28)], [(0, 14, 27, 30), (0, 14, 33, 20)], 0, 14, 21, 14, rfl, (List.forall_mem_cons.mpr ⟨⟨by decide, "java/lang/IndexOutOfBoundsException", (List.mem_of_getElem? (i := 9) rfl), by decide +kernel⟩, (fun _ h => absurd h List.not_mem_nil)⟩), rfl, by decide, (List.mem_of_getElem? (i := 10) rfl), by decide +kernel, fun q9 => ?_⟩
        refine wk_astore C (lv' := [some (.ref l0A), some (.int l1I), some (.int l2I), some (.int l3I), some (.int l4I), some (.int l5I), some (.int l6I), some (.ref q9)]) dL_put_21 (by decide) rfl ?_
        refine wk_ldc2 C (v := (-4000000000000000002)) (List.mem_of_getElem? (i := 2) rfl) dL_put_23 ?_
        exact E _ _ _ _ _ _ hk4 hn5 dL_put_26 ⟨(-4000000000000000002 : Int64), rfl, h, hWS7, (wkExt.tr hE hXS7)⟩
      · skip
        rcases wkIf hx with ⟨cE, h⟩ | ⟨-, hx⟩
        · subst cE
          refine ⟨[(0, 14, 15, 28), (0, 14, 21, 14)], [(0, 14, 33, 20)], 0, 14, 27, 30, rfl, (List.forall_mem_cons.mpr ⟨⟨by decide, "java/lang/IndexOutOfBoundsException", (List.mem_of_getElem? (i := 9) rfl), by decide +kernel⟩, (List.forall_mem_cons.mpr ⟨⟨by decide, "java/lang/IllegalArgumentException", (List.mem_of_getElem? (i := 10) rfl), by decide +kernel⟩, (fun _ h => absurd h List.not_mem_nil)⟩)⟩), rfl, by decide, (List.mem_of_getElem? (i := 11) rfl), by decide +kernel, fun q10 => ?_⟩
          refine wk_astore C (lv' := [some (.ref l0A), some (.int l1I), some (.int l2I), some (.int l3I), some (.int l4I), some (.int l5I), some (.int l6I), some (.ref q10)]) dL_put_27 (by decide) rfl ?_
          refine wk_ldc2 C (v := (-4000000000000000003)) (List.mem_of_getElem? (i := 3) rfl) dL_put_29 ?_
          exact E _ _ _ _ _ _ hk4 hn5 dL_put_32 ⟨(-4000000000000000003 : Int64), rfl, h, hWS7, (wkExt.tr hE hXS7)⟩
        · skip
          rcases wkIf hx with ⟨cE, h⟩ | ⟨-, hx⟩
          · subst cE
            refine ⟨[(0, 14, 15, 28), (0, 14, 21, 14), (0, 14, 27, 30)], [], 0, 14, 33, 20, rfl, (List.forall_mem_cons.mpr ⟨⟨by decide, "java/lang/IndexOutOfBoundsException", (List.mem_of_getElem? (i := 9) rfl), by decide +kernel⟩, (List.forall_mem_cons.mpr ⟨⟨by decide, "java/lang/IllegalArgumentException", (List.mem_of_getElem? (i := 10) rfl), by decide +kernel⟩, (List.forall_mem_cons.mpr ⟨⟨by decide, "java/lang/UnsupportedOperationException", (List.mem_of_getElem? (i := 11) rfl), by decide +kernel⟩, (fun _ h => absurd h List.not_mem_nil)⟩)⟩)⟩), rfl, by decide, (List.mem_of_getElem? (i := 12) rfl), by decide +kernel, fun q11 => ?_⟩
            refine wk_astore C (lv' := [some (.ref l0A), some (.int l1I), some (.int l2I), some (.int l3I), some (.int l4I), some (.int l5I), some (.int l6I), some (.ref q11)]) dL_put_33 (by decide) rfl ?_
            refine wk_ldc2 C (v := (-4000000000000000004)) (List.mem_of_getElem? (i := 4) rfl) dL_put_35 ?_
            exact E _ _ _ _ _ _ hk4 hn5 dL_put_38 ⟨(-4000000000000000004 : Int64), rfl, h, hWS7, (wkExt.tr hE hXS7)⟩
          · exact hx.elim
  obtain ⟨v1, rfl, h, hWS2, hXS2⟩ := hp
  refine wk_i2l C dL_put_13 rfl ?_
  exact E _ _ _ _ _ _ hk4 hn5 dL_put_14 ⟨(Int32.toInt64 v1), rfl, h, hWS2, (wkExt.tr hE hXS2)⟩
def wvL_change : List Cond := .codeWith yL_change cL_change 9 (some .long) [(0, 16, 17, 28), (0, 16, 23, 40), (0, 16, 29, 14), (0, 16, 35, 30)] :: (([.constantLong RL 18 (-4000000000000000001), .constantLong RL 22 (-4000000000000000002), .constantLong RL 32 (-4000000000000000003), .constantLong RL 34 (-4000000000000000004), .methodLink RL 36 yX11_change, .instanceMethod yX11_change, .selects RX11 yX11_change yX11_change, .initialized RX11, .classLink RL 28 "java/lang/IndexOutOfBoundsException", .classLink RL 40 "java/util/NoSuchElementException", .classLink RL 14 "java/lang/IllegalArgumentException", .classLink RL 30 "java/lang/UnsupportedOperationException"] : List Cond) ++ (([]) ++ (wvX11_change)))
theorem hbL_change_X11_change : ∀ w ∈ wvX11_change, w ∈ wvL_change := fun w h => List.mem_cons_of_mem _ (List.mem_append_right _ (List.mem_append_right _ h))
theorem gdL_change : ∀ w ∈ wvL_change, wkGd w := wkGdC rfl (wkGdA (wkGdL (by decide +kernel)) (wkGdA (fun _ h => absurd h List.not_mem_nil) gdX11_change))
def rL_change (G : wkG) (F : Nat) (k n : Nat) (l0A : Nat) (l1I : Int32) (l2I : Int32) (l3I : Int32) (l4I : Int32) (l5I : Int32) (l6I : Int32) (l7I : Int32) (S : wPS) (Φ : (Int64 → wPS → Prop)) : Prop :=
  ∃ k4 n5 : Nat, 0 + k4 ≤ k ∧ 0 + n5 ≤ n ∧ rX11_change F k4 n5 l0A l1I l2I l3I l4I l5I l6I l7I S (fun v1 S2 => Φ (Int32.toInt64 v1) S2) (fun E6 S7 => if E6 = "java/lang/IndexOutOfBoundsException" then (Φ (-4000000000000000001 : Int64) S7) else if E6 = "java/util/NoSuchElementException" then (Φ (-4000000000000000002 : Int64) S7) else if E6 = "java/lang/IllegalArgumentException" then (Φ (-4000000000000000003 : Int64) S7) else if E6 = "java/lang/UnsupportedOperationException" then (Φ (-4000000000000000004 : Int64) S7) else False)
set_option maxHeartbeats 4000000 in
set_option maxRecDepth 100000 in
theorem tL_change {l : Launch} {g : wkG} {F : Nat} {k n : Nat}  {S : wPS} {l0A : Nat} {l1I : Int32} {l2I : Int32} {l3I : Int32} {l4I : Int32} {l5I : Int32} {l6I : Int32} {l7I : Int32} {Φ : (Int64 → wPS → Prop)} (hcs : wkCast g) (hex : wkExA g) (hlt : l.stackTraces = false) (hW : wkWF S) (hl0A : wkIs S l0A 11) (h : rL_change g F k n l0A l1I l2I l3I l4I l5I l6I l7I S Φ) : wkMet l g yL_change wvL_change 8 k n [.ref l0A, .int l1I, .int l2I, .int l3I, .int l4I, .int l5I, .int l6I, .int l7I] S (fun v' S'' => ∃ v : Int64, v' = some (.long v) ∧ Φ v S'' ∧ wkWF S'' ∧ wkExt S S'') := by
  refine wkMet_ofT (ret := (some .long)) (plainFor_of_name (by decide)) rfl (Nat.le_of_ble_eq_true rfl) (fun X hg C hR hT E => ?_)
  subst hg
  have hE : wkExt S S := wkExt.rf
  have hd : 8 ≤ 8 := Nat.le_refl _
  show wkGo l X 9 0 0 0 S [some (.ref l0A), some (.int l1I), some (.int l2I), some (.int l3I), some (.int l4I), some (.int l5I), some (.int l6I), some (.int l7I), none] []
  unfold rL_change at h
  refine wk_aload_n C dL_change_0 rfl rfl ?_
  refine wk_iload_n C dL_change_1 rfl rfl ?_
  refine wk_iload_n C dL_change_2 rfl rfl ?_
  refine wk_iload_n C dL_change_3 rfl rfl ?_
  refine wk_iload C dL_change_4 rfl ?_
  refine wk_iload C dL_change_6 rfl ?_
  refine wk_iload C dL_change_8 rfl ?_
  refine wk_iload C dL_change_10 rfl ?_
  obtain ⟨k4, n5, hk4, hn5, h⟩ := h
  refine wk_callVH C hT hcs hR (As := [.int l1I, .int l2I, .int l3I, .int l4I, .int l5I, .int l6I, .int l7I]) (cnt := 7) (tX11_change (l := l) hex hlt hW hl0A h) rfl (wkGoodV (List.mem_of_getElem? (i := 5) rfl) (List.mem_of_getElem? (i := 6) rfl) (List.mem_of_getElem? (i := 7) rfl) (List.mem_of_getElem? (i := 8) rfl) hbL_change_X11_change gdX11_change) (Nat.le_trans (by decide : 7 + 1 ≤ 8) hd) (by decide) hl0A.1 (fun cy => wAt_11 cy _ hl0A.2) rfl ⟨by decide, by decide, by decide +kernel⟩ rfl rfl (Nat.le_of_ble_eq_true rfl) hk4 hn5 dL_change_12 (fun E6 S7 hx => ?_) (fun v' S2 hp => ?_)
  · obtain ⟨hx, hWS7, hXS7⟩ := hx
    rcases wkIf hx with ⟨cE, h⟩ | ⟨-, hx⟩
    · subst cE
      refine ⟨[], [(0, 16, 23, 40), (0, 16, 29, 14), (0, 16, 35, 30)], 0, 16, 17, 28, rfl, (fun _ h => absurd h List.not_mem_nil), rfl, by decide, (List.mem_of_getElem? (i := 9) rfl), by decide +kernel, fun q8 => ?_⟩
      refine wk_astore C (lv' := [some (.ref l0A), some (.int l1I), some (.int l2I), some (.int l3I), some (.int l4I), some (.int l5I), some (.int l6I), some (.int l7I), some (.ref q8)]) dL_change_17 (by decide) rfl ?_
      refine wk_ldc2 C (v := (-4000000000000000001)) (List.mem_of_getElem? (i := 1) rfl) dL_change_19 ?_
      exact E _ _ _ _ _ _ hk4 hn5 dL_change_22 ⟨(-4000000000000000001 : Int64), rfl, h, hWS7, (wkExt.tr hE hXS7)⟩
    · skip
      rcases wkIf hx with ⟨cE, h⟩ | ⟨-, hx⟩
      · subst cE
        refine ⟨[(0, 16, 17, 28)], [(0, 16, 29, 14), (0, 16, 35, 30)], 0, 16, 23, 40, rfl, (List.forall_mem_cons.mpr ⟨⟨by decide, "java/lang/IndexOutOfBoundsException", (List.mem_of_getElem? (i := 9) rfl), by decide +kernel⟩, (fun _ h => absurd h List.not_mem_nil)⟩), rfl, by decide, (List.mem_of_getElem? (i := 10) rfl), by decide +kernel, fun q9 => ?_⟩
        refine wk_astore C (lv' := [some (.ref l0A), some (.int l1I), some (.int l2I), some (.int l3I), some (.int l4I), some (.int l5I), some (.int l6I), some (.int l7I), some (.ref q9)]) dL_change_23 (by decide) rfl ?_
        refine wk_ldc2 C (v := (-4000000000000000002)) (List.mem_of_getElem? (i := 2) rfl) dL_change_25 ?_
        exact E _ _ _ _ _ _ hk4 hn5 dL_change_28 ⟨(-4000000000000000002 : Int64), rfl, h, hWS7, (wkExt.tr hE hXS7)⟩
      · skip
        rcases wkIf hx with ⟨cE, h⟩ | ⟨-, hx⟩
        · subst cE
          refine ⟨[(0, 16, 17, 28), (0, 16, 23, 40)], [(0, 16, 35, 30)], 0, 16, 29, 14, rfl, (List.forall_mem_cons.mpr ⟨⟨by decide, "java/lang/IndexOutOfBoundsException", (List.mem_of_getElem? (i := 9) rfl), by decide +kernel⟩, (List.forall_mem_cons.mpr ⟨⟨by decide, "java/util/NoSuchElementException", (List.mem_of_getElem? (i := 10) rfl), by decide +kernel⟩, (fun _ h => absurd h List.not_mem_nil)⟩)⟩), rfl, by decide, (List.mem_of_getElem? (i := 11) rfl), by decide +kernel, fun q10 => ?_⟩
          refine wk_astore C (lv' := [some (.ref l0A), some (.int l1I), some (.int l2I), some (.int l3I), some (.int l4I), some (.int l5I), some (.int l6I), some (.int l7I), some (.ref q10)]) dL_change_29 (by decide) rfl ?_
          refine wk_ldc2 C (v := (-4000000000000000003)) (List.mem_of_getElem? (i := 3) rfl) dL_change_31 ?_
          exact E _ _ _ _ _ _ hk4 hn5 dL_change_34 ⟨(-4000000000000000003 : Int64), rfl, h, hWS7, (wkExt.tr hE hXS7)⟩
        · skip
          rcases wkIf hx with ⟨cE, h⟩ | ⟨-, hx⟩
          · subst cE
            refine ⟨[(0, 16, 17, 28), (0, 16, 23, 40), (0, 16, 29, 14)], [], 0, 16, 35, 30, rfl, (List.forall_mem_cons.mpr ⟨⟨by decide, "java/lang/IndexOutOfBoundsException", (List.mem_of_getElem? (i := 9) rfl), by decide +kernel⟩, (List.forall_mem_cons.mpr ⟨⟨by decide, "java/util/NoSuchElementException", (List.mem_of_getElem? (i := 10) rfl), by decide +kernel⟩, (List.forall_mem_cons.mpr ⟨⟨by decide, "java/lang/IllegalArgumentException", (List.mem_of_getElem? (i := 11) rfl), by decide +kernel⟩, (fun _ h => absurd h List.not_mem_nil)⟩)⟩)⟩), rfl, by decide, (List.mem_of_getElem? (i := 12) rfl), by decide +kernel, fun q11 => ?_⟩
            refine wk_astore C (lv' := [some (.ref l0A), some (.int l1I), some (.int l2I), some (.int l3I), some (.int l4I), some (.int l5I), some (.int l6I), some (.int l7I), some (.ref q11)]) dL_change_35 (by decide) rfl ?_
            refine wk_ldc2 C (v := (-4000000000000000004)) (List.mem_of_getElem? (i := 4) rfl) dL_change_37 ?_
            exact E _ _ _ _ _ _ hk4 hn5 dL_change_40 ⟨(-4000000000000000004 : Int64), rfl, h, hWS7, (wkExt.tr hE hXS7)⟩
          · exact hx.elim
  obtain ⟨v1, rfl, h, hWS2, hXS2⟩ := hp
  refine wk_i2l C dL_change_15 rfl ?_
  exact E _ _ _ _ _ _ hk4 hn5 dL_change_16 ⟨(Int32.toInt64 v1), rfl, h, hWS2, (wkExt.tr hE hXS2)⟩
def wvL_kindOf : List Cond := .codeWith yL_kindOf cL_kindOf 3 (some .long) [(0, 6, 7, 28)] :: (([.constantLong RL 18 (-4000000000000000001), .methodLink RL 69 yX11_kindOf, .instanceMethod yX11_kindOf, .selects RX11 yX11_kindOf yX11_kindOf, .initialized RX11, .classLink RL 28 "java/lang/IndexOutOfBoundsException"] : List Cond) ++ (([]) ++ (wvX11_kindOf)))
theorem hbL_kindOf_X11_kindOf : ∀ w ∈ wvX11_kindOf, w ∈ wvL_kindOf := fun w h => List.mem_cons_of_mem _ (List.mem_append_right _ (List.mem_append_right _ h))
theorem gdL_kindOf : ∀ w ∈ wvL_kindOf, wkGd w := wkGdC rfl (wkGdA (wkGdL (by decide +kernel)) (wkGdA (fun _ h => absurd h List.not_mem_nil) gdX11_kindOf))
def rL_kindOf (G : wkG) (F : Nat) (k n : Nat) (l0A : Nat) (l1I : Int32) (S : wPS) (Φ : (Int64 → wPS → Prop)) : Prop :=
  ∃ k4 n5 : Nat, 0 + k4 ≤ k ∧ 0 + n5 ≤ n ∧ rX11_kindOf F k4 n5 l0A l1I S (fun v1 S2 => Φ (Int32.toInt64 v1) S2) (fun E6 S7 => if E6 = "java/lang/IndexOutOfBoundsException" then (Φ (-4000000000000000001 : Int64) S7) else False)
set_option maxHeartbeats 4000000 in
set_option maxRecDepth 100000 in
theorem tL_kindOf {l : Launch} {g : wkG} {F : Nat} {k n : Nat}  {S : wPS} {l0A : Nat} {l1I : Int32} {Φ : (Int64 → wPS → Prop)} (hstr : wkStr g) (hcs : wkCast g) (hex : wkExA g) (hlt : l.stackTraces = false) (hW : wkWF S) (hl0A : wkIs S l0A 11) (h : rL_kindOf g F k n l0A l1I S Φ) : wkMet l g yL_kindOf wvL_kindOf 8 k n [.ref l0A, .int l1I] S (fun v' S'' => ∃ v : Int64, v' = some (.long v) ∧ Φ v S'' ∧ wkWF S'' ∧ wkExt S S'') := by
  refine wkMet_ofT (ret := (some .long)) (plainFor_of_name (by decide)) rfl (Nat.le_of_ble_eq_true rfl) (fun X hg C hR hT E => ?_)
  subst hg
  have hE : wkExt S S := wkExt.rf
  have hd : 8 ≤ 8 := Nat.le_refl _
  show wkGo l X 3 0 0 0 S [some (.ref l0A), some (.int l1I), none] []
  unfold rL_kindOf at h
  refine wk_aload_n C dL_kindOf_0 rfl rfl ?_
  refine wk_iload_n C dL_kindOf_1 rfl rfl ?_
  obtain ⟨k4, n5, hk4, hn5, h⟩ := h
  refine wk_callVH C hT hcs hR (As := [.int l1I]) (cnt := 1) (tX11_kindOf (l := l) hstr hex hlt hW hl0A h) rfl (wkGoodV (List.mem_of_getElem? (i := 2) rfl) (List.mem_of_getElem? (i := 3) rfl) (List.mem_of_getElem? (i := 4) rfl) (List.mem_of_getElem? (i := 5) rfl) hbL_kindOf_X11_kindOf gdX11_kindOf) (Nat.le_trans (by decide : 7 + 1 ≤ 8) hd) (by decide) hl0A.1 (fun cy => wAt_11 cy _ hl0A.2) rfl ⟨by decide, by decide, by decide +kernel⟩ rfl rfl (Nat.le_of_ble_eq_true rfl) hk4 hn5 dL_kindOf_2 (fun E6 S7 hx => ?_) (fun v' S2 hp => ?_)
  · obtain ⟨hx, hWS7, hXS7⟩ := hx
    rcases wkIf hx with ⟨cE, h⟩ | ⟨-, hx⟩
    · subst cE
      refine ⟨[], [], 0, 6, 7, 28, rfl, (fun _ h => absurd h List.not_mem_nil), rfl, by decide, (List.mem_of_getElem? (i := 6) rfl), by decide +kernel, fun q8 => ?_⟩
      refine wk_astore_n C (lv' := [some (.ref l0A), some (.int l1I), some (.ref q8)]) dL_kindOf_7 rfl (by decide) rfl ?_
      refine wk_ldc2 C (v := (-4000000000000000001)) (List.mem_of_getElem? (i := 1) rfl) dL_kindOf_8 ?_
      exact E _ _ _ _ _ _ hk4 hn5 dL_kindOf_11 ⟨(-4000000000000000001 : Int64), rfl, h, hWS7, (wkExt.tr hE hXS7)⟩
    · exact hx.elim
  obtain ⟨v1, rfl, h, hWS2, hXS2⟩ := hp
  refine wk_i2l C dL_kindOf_5 rfl ?_
  exact E _ _ _ _ _ _ hk4 hn5 dL_kindOf_6 ⟨(Int32.toInt64 v1), rfl, h, hWS2, (wkExt.tr hE hXS2)⟩
def wvL_writes : List Cond := .code yL_writes cL_writes 11 (some .long) :: (([.methodLink RL 166 yL_part, .static yL_part, .initialized RL, .methodLink RL 157 yL_drawn, .static yL_drawn, .methodLink RL 172 yL_change, .static yL_change, .methodLink RL 169 yL_put, .static yL_put, .methodLink RL 161 yL_kindOf, .static yL_kindOf, .methodLink RL 164 yL_sizeOf, .static yL_sizeOf, .arrayClass .int] : List Cond) ++ (([]) ++ (wvL_part ++ (wvL_drawn ++ (wvL_change ++ (wvL_put ++ (wvL_kindOf ++ (wvL_sizeOf))))))))
theorem hbL_writes_L_part : ∀ w ∈ wvL_part, w ∈ wvL_writes := fun w h => List.mem_cons_of_mem _ (List.mem_append_right _ (List.mem_append_right _ (List.mem_append_left _ h)))
theorem hbL_writes_L_drawn : ∀ w ∈ wvL_drawn, w ∈ wvL_writes := fun w h => List.mem_cons_of_mem _ (List.mem_append_right _ (List.mem_append_right _ (List.mem_append_right _ (List.mem_append_left _ h))))
theorem hbL_writes_L_change : ∀ w ∈ wvL_change, w ∈ wvL_writes := fun w h => List.mem_cons_of_mem _ (List.mem_append_right _ (List.mem_append_right _ (List.mem_append_right _ (List.mem_append_right _ (List.mem_append_left _ h)))))
theorem hbL_writes_L_put : ∀ w ∈ wvL_put, w ∈ wvL_writes := fun w h => List.mem_cons_of_mem _ (List.mem_append_right _ (List.mem_append_right _ (List.mem_append_right _ (List.mem_append_right _ (List.mem_append_right _ (List.mem_append_left _ h))))))
theorem hbL_writes_L_kindOf : ∀ w ∈ wvL_kindOf, w ∈ wvL_writes := fun w h => List.mem_cons_of_mem _ (List.mem_append_right _ (List.mem_append_right _ (List.mem_append_right _ (List.mem_append_right _ (List.mem_append_right _ (List.mem_append_right _ (List.mem_append_left _ h)))))))
theorem hbL_writes_L_sizeOf : ∀ w ∈ wvL_sizeOf, w ∈ wvL_writes := fun w h => List.mem_cons_of_mem _ (List.mem_append_right _ (List.mem_append_right _ (List.mem_append_right _ (List.mem_append_right _ (List.mem_append_right _ (List.mem_append_right _ (List.mem_append_right _ h)))))))
theorem gdL_writes : ∀ w ∈ wvL_writes, wkGd w := wkGdC rfl (wkGdA (wkGdL (by decide +kernel)) (wkGdA (fun _ h => absurd h List.not_mem_nil) (wkGdA gdL_part (wkGdA gdL_drawn (wkGdA gdL_change (wkGdA gdL_put (wkGdA gdL_kindOf gdL_sizeOf)))))))
def rL_writes_b0 (G : wkG) (F : Nat) (k n : Nat) (rec : Nat → Nat → Nat → Nat → Int32 → Int32 → Int32 → Int32 → Int32 → Nat → Int32 → wPS → (Int64 → wPS → Prop) → Prop) (c s : Nat) (l0A : Nat) (l1I : Int32) (l2I : Int32) (l4I : Int32) (l5I : Int32) (l6I : Int32) (l7A : Nat) (l8I : Int32) (S : wPS) (Φ : (Int64 → wPS → Prop)) : Prop :=
  if (6 : Int32) ≤ l8I then (rec 1 c s l0A l1I l2I l4I l5I l6I l7A (0 : Int32) S Φ) else (if l5I = (103 : Int32) then (¬ (l8I < 0 ∨ S.len l7A ≤ (l8I).toNatClampNeg) ∧ wkLt (wuI S l7A l8I l8I) fun S12 => wkLt (l8I + (1 : Int32)) fun x13 => rec 0 c s l0A l1I l2I l4I l5I l6I l7A x13 S12 Φ) else (rL_part G F l5I l6I l8I (l4I + l8I) S fun v3 S4 => ¬ (l8I < 0 ∨ S4.len l7A ≤ (l8I).toNatClampNeg) ∧ wkLt (wuI S4 l7A l8I v3) fun S9 => wkLt (l8I + (1 : Int32)) fun x10 => rec 0 c s l0A l1I l2I l4I l5I l6I l7A x10 S9 Φ))
def rL_writes_b1 (G : wkG) (F : Nat) (k n : Nat) (rec : Nat → Nat → Nat → Nat → Int32 → Int32 → Int32 → Int32 → Int32 → Nat → Int32 → wPS → (Int64 → wPS → Prop) → Prop) (c s : Nat) (l0A : Nat) (l1I : Int32) (l2I : Int32) (l4I : Int32) (l5I : Int32) (l6I : Int32) (l7A : Nat) (l8I : Int32) (S : wPS) (Φ : (Int64 → wPS → Prop)) : Prop :=
  if l5I = (103 : Int32) then (if l6I ≤ l8I then (rec 2 c s l0A l1I l2I 0 0 0 l7A 0 S Φ) else (rL_drawn G F (l4I + l8I) (l6I - l8I) S fun v16 S17 => wkLt ((l8I + v16)) fun x21 => ¬ (l8I < 0 ∨ S17.len l7A ≤ (l8I).toNatClampNeg) ∧ wkLt ((S17.rI l7A (l8I).toNatClampNeg)) fun x23 => ¬ (x21 < 0 ∨ S17.len l7A ≤ (x21).toNatClampNeg) ∧ ¬ (l8I < 0 ∨ S17.len l7A ≤ (l8I).toNatClampNeg) ∧ wkLt (wuI S17 l7A l8I (S17.rI l7A (x21).toNatClampNeg)) fun S26 => ¬ (x21 < 0 ∨ S26.len l7A ≤ (x21).toNatClampNeg) ∧ wkLt (wuI S26 l7A x21 x23) fun S28 => wkLt (l8I + (1 : Int32)) fun x29 => rec 1 c s l0A l1I l2I l4I l5I l6I l7A x29 S28 Φ)) else (rec 2 c s l0A l1I l2I 0 0 0 l7A 0 S Φ)
def rL_writes_b2 (G : wkG) (F : Nat) (k n : Nat) (rec : Nat → Nat → Nat → Nat → Int32 → Int32 → Int32 → Int32 → Int32 → Nat → Int32 → wPS → (Int64 → wPS → Prop) → Prop) (c s : Nat) (l0A : Nat) (l1I : Int32) (l2I : Int32) (l7A : Nat) (S : wPS) (Φ : (Int64 → wPS → Prop)) : Prop :=
  if 0 ≤ l2I then (¬ ((0 : Int32) < 0 ∨ S.len l7A ≤ ((0 : Int32)).toNatClampNeg) ∧ ¬ ((1 : Int32) < 0 ∨ S.len l7A ≤ ((1 : Int32)).toNatClampNeg) ∧ ¬ ((2 : Int32) < 0 ∨ S.len l7A ≤ ((2 : Int32)).toNatClampNeg) ∧ ¬ ((3 : Int32) < 0 ∨ S.len l7A ≤ ((3 : Int32)).toNatClampNeg) ∧ ¬ ((4 : Int32) < 0 ∨ S.len l7A ≤ ((4 : Int32)).toNatClampNeg) ∧ ∃ k39 n40 : Nat, c + k39 ≤ k ∧ s + n40 ≤ n ∧ rL_change G F k39 n40 l0A l1I l2I (S.rI l7A ((0 : Int32)).toNatClampNeg) (S.rI l7A ((1 : Int32)).toNatClampNeg) (S.rI l7A ((2 : Int32)).toNatClampNeg) (S.rI l7A ((3 : Int32)).toNatClampNeg) (S.rI l7A ((4 : Int32)).toNatClampNeg) S fun v36 S37 => Φ v36 S37) else (¬ ((0 : Int32) < 0 ∨ S.len l7A ≤ ((0 : Int32)).toNatClampNeg) ∧ ¬ ((1 : Int32) < 0 ∨ S.len l7A ≤ ((1 : Int32)).toNatClampNeg) ∧ ¬ ((2 : Int32) < 0 ∨ S.len l7A ≤ ((2 : Int32)).toNatClampNeg) ∧ ¬ ((3 : Int32) < 0 ∨ S.len l7A ≤ ((3 : Int32)).toNatClampNeg) ∧ ¬ ((4 : Int32) < 0 ∨ S.len l7A ≤ ((4 : Int32)).toNatClampNeg) ∧ ∃ k49 n50 : Nat, c + k49 ≤ k ∧ s + n50 ≤ n ∧ rL_put G F k49 n50 l0A l1I (S.rI l7A ((0 : Int32)).toNatClampNeg) (S.rI l7A ((1 : Int32)).toNatClampNeg) (S.rI l7A ((2 : Int32)).toNatClampNeg) (S.rI l7A ((3 : Int32)).toNatClampNeg) (S.rI l7A ((4 : Int32)).toNatClampNeg) S fun v46 S47 => Φ v46 S47)
def rL_writes_go (G : wkG) (F : Nat) (k n : Nat) : Nat → Nat → Nat → Nat → Nat → Int32 → Int32 → Int32 → Int32 → Int32 → Nat → Int32 → wPS → (Int64 → wPS → Prop) → Prop
  | 0, _, _, _, _, _, _, _, _, _, _, _, _, _ => False
  | k' + 1, lab, c, s, l0A, l1I, l2I, l4I, l5I, l6I, l7A, l8I, S, Φ => if lab = 0 then rL_writes_b0 G F k n (rL_writes_go G F k n k') c s l0A l1I l2I l4I l5I l6I l7A l8I S Φ else if lab = 1 then rL_writes_b1 G F k n (rL_writes_go G F k n k') c s l0A l1I l2I l4I l5I l6I l7A l8I S Φ else if lab = 2 then rL_writes_b2 G F k n (rL_writes_go G F k n k') c s l0A l1I l2I l7A S Φ else False
def rL_writes_s (G : wkG) (F : Nat) (k n : Nat) (rec : Nat → Nat → Nat → Nat → Int32 → Int32 → Int32 → Int32 → Int32 → Nat → Int32 → wPS → (Int64 → wPS → Prop) → Prop) (l0A : Nat) (l1I : Int32) (l2I : Int32) (l4I : Int32) (S : wPS) (Φ : (Int64 → wPS → Prop)) : Prop :=
  ∃ k54 n55 : Nat, 0 + k54 ≤ k ∧ 0 + n55 ≤ n ∧ rL_kindOf G F k54 n55 l0A l1I S fun v51 S52 => wkLt (((Int32.toUInt32 (Int64.toInt32 v51)) % 65536).toInt32) fun x56 => ∃ k60 n61 : Nat, (0 + k54) + k60 ≤ k ∧ (0 + n55) + n61 ≤ n ∧ rL_sizeOf G F k60 n61 l0A l1I S52 fun v57 S58 => wkLt ((Int64.toInt32 v57)) fun x62 => ¬ (6 : Int32) < 0 ∧ ((0 + k54) + k60) + 1 ≤ k ∧ ((0 + n55) + n61) + ((6 : Int32)).toNatClampNeg ≤ n ∧ ((6 : Int32)).toNatClampNeg * 4 ≤ 536870912 ∧ ∀ q64 : Nat, ¬ q64 ∈ S58.L → wkLt (wnI S58 q64 13 ((6 : Int32)).toNatClampNeg (fun _ => 0)) fun S65 => rec 0 (((0 + k54) + k60) + 1) (((0 + n55) + n61) + ((6 : Int32)).toNatClampNeg) l0A l1I l2I l4I x56 x62 q64 (0 : Int32) S65 Φ
def rL_writes (G : wkG) (F : Nat) (k n : Nat) (l0A : Nat) (l1I : Int32) (l2I : Int32) (l4I : Int32) (S : wPS) (Φ : (Int64 → wPS → Prop)) : Prop := rL_writes_s G F k n (rL_writes_go G F k n F) l0A l1I l2I l4I S Φ
set_option maxHeartbeats 4000000 in
set_option maxRecDepth 100000 in
theorem tL_writes_go {k n : Nat} {l : Launch} {X : wkX} {d F : Nat} {S0 : wPS} {Φ : (Int64 → wPS → Prop)} (hst : wkSta (wkXg X)) (hstr : wkStr (wkXg X)) (hcs : wkCast (wkXg X)) (harg : wkArg (wkXg X)) (hex : wkExA (wkXg X)) (hlt : l.stackTraces = false) (C : wkC X cL_writes RL 11 wvL_writes) (hR : wkRm X d k n) (hd : 9 ≤ d) (E : wkEnd l X cL_writes 11 (some .long) k n (fun v' S'' => ∃ v : Int64, v' = some (.long v) ∧ Φ v S'' ∧ wkWF S'' ∧ wkExt S0 S'')) : ∀ k' : Nat, (∀ (c s : Nat), c ≤ k → s ≤ n → ∀ (l0A : Nat) (l1I : Int32) (l2I : Int32) (l3A : Nat) (l4I : Int32) (l5I : Int32) (l6I : Int32) (l7A : Nat) (l8I : Int32) (S : wPS), wkWF S → wkExt S0 S → wkIs S l0A 11 → l3A = (wkXg X).1 8 → wkIs S l7A 13 → rL_writes_go (wkXg X) F k n k' 0 c s l0A l1I l2I l4I l5I l6I l7A l8I S Φ → wkGo l X 11 c s 26 S [some (.ref l0A), some (.int l1I), some (.int l2I), some (.ref l3A), some (.int l4I), some (.int l5I), some (.int l6I), some (.ref l7A), some (.int l8I), none, none] []) ∧ (∀ (c s : Nat), c ≤ k → s ≤ n → ∀ (l0A : Nat) (l1I : Int32) (l2I : Int32) (l3A : Nat) (l4I : Int32) (l5I : Int32) (l6I : Int32) (l7A : Nat) (l8I : Int32) (S : wPS), wkWF S → wkExt S0 S → wkIs S l0A 11 → l3A = (wkXg X).1 8 → wkIs S l7A 13 → rL_writes_go (wkXg X) F k n k' 1 c s l0A l1I l2I l4I l5I l6I l7A l8I S Φ → wkGo l X 11 c s 74 S [some (.ref l0A), some (.int l1I), some (.int l2I), some (.ref l3A), some (.int l4I), some (.int l5I), some (.int l6I), some (.ref l7A), some (.int l8I), none, none] []) ∧ (∀ (c s : Nat), c ≤ k → s ≤ n → ∀ (l0A : Nat) (l1I : Int32) (l2I : Int32) (l7A : Nat) (S : wPS), wkWF S → wkExt S0 S → wkIs S l0A 11 → wkIs S l7A 13 → rL_writes_go (wkXg X) F k n k' 2 c s l0A l1I l2I 0 0 0 l7A 0 S Φ → wkGo l X 11 c s 137 S [some (.ref l0A), some (.int l1I), some (.int l2I), none, none, none, none, some (.ref l7A), none, none, none] []) := by
  intro k'
  induction k' with
  | zero => exact ⟨fun c s hc hs l0A l1I l2I l3A l4I l5I l6I l7A l8I S hW hE hl0A hl3A hl7A h => h.elim, fun c s hc hs l0A l1I l2I l3A l4I l5I l6I l7A l8I S hW hE hl0A hl3A hl7A h => h.elim, fun c s hc hs l0A l1I l2I l7A S hW hE hl0A hl7A h => h.elim⟩
  | succ k' ih =>
    refine ⟨?_, ?_, ?_⟩
    · intro c s hc hs l0A l1I l2I l3A l4I l5I l6I l7A l8I S hW hE hl0A hl3A hl7A h
      have h : rL_writes_b0 (wkXg X) F k n (rL_writes_go (wkXg X) F k n k') c s l0A l1I l2I l4I l5I l6I l7A l8I S Φ := by
        rw [rL_writes_go, if_pos (rfl : (0 : Nat) = 0)] at h
        exact h
      unfold rL_writes_b0 at h
      refine wk_iload C dL_writes_26 rfl ?_
      refine wk_bipush C (v := 6) dL_writes_28 (by decide) ?_
      refine wk_icmp_ge C (tgt := 71) dL_writes_30 (by decide) (fun c1 => ?_) (fun c1 => ?_)
      · rw [if_pos c1] at h
        refine wk_iconst C (v := 0) dL_writes_71 (by decide) ?_
        refine wk_istore C (lv' := [some (.ref l0A), some (.int l1I), some (.int l2I), some (.ref l3A), some (.int l4I), some (.int l5I), some (.int l6I), some (.ref l7A), some (.int (0 : Int32)), none, none]) dL_writes_72 (by decide) rfl ?_
        exact wk_forget (lv' := [some (.ref l0A), some (.int l1I), some (.int l2I), some (.ref l3A), some (.int l4I), some (.int l5I), some (.int l6I), some (.ref l7A), some (.int (0 : Int32)), none, none]) (wkLs.le ⟨rfl, rfl, rfl, rfl, rfl, rfl, rfl, rfl, rfl, trivial⟩) (ih.2.1 _ _ hc hs _ _ _ _ _ _ _ _ _ _ hW hE hl0A hl3A hl7A h)
      · rw [if_neg c1] at h
        refine wk_aload C dL_writes_33 rfl ?_
        refine wk_iload C dL_writes_35 rfl ?_
        refine wk_iload C dL_writes_37 rfl ?_
        refine wk_bipush C (v := 103) dL_writes_39 (by decide) ?_
        refine wk_icmp_ne C (tgt := 49) dL_writes_41 (by decide) (fun c2 => ?_) (fun c2 => ?_)
        · rw [if_neg c2] at h
          refine wk_iload C dL_writes_49 rfl ?_
          refine wk_iload C dL_writes_51 rfl ?_
          refine wk_iload C dL_writes_53 rfl ?_
          refine wk_aload_n C dL_writes_55 rfl rfl ?_
          refine wk_iload C dL_writes_56 rfl ?_
          refine wk_iload C dL_writes_58 rfl ?_
          refine wk_iadd C dL_writes_60 rfl ?_
          refine wk_callW C hR (As := [.int l5I, .int l6I, .int l8I, .ref l3A, .int (l4I + l8I)]) (cnt := 5) (tL_part (l := l) harg hW hl3A h) rfl (wkGoodW (List.mem_of_getElem? (i := 1) rfl) (List.mem_of_getElem? (i := 2) rfl) (List.mem_of_getElem? (i := 3) rfl) hbL_writes_L_part gdL_part) (Nat.le_trans (by decide : 2 + 1 ≤ 9) hd) (by decide) ⟨by decide, by decide, by decide +kernel⟩ rfl rfl (Nat.le_of_ble_eq_true rfl) hc hs dL_writes_61 (fun v' S4 hp => ?_)
          obtain ⟨v3, rfl, h, hWS4, hXS4⟩ := hp
          obtain ⟨i8, h⟩ := h
          obtain ⟨S9, eS9, h⟩ := wkLt_some h
          refine wk_iast C (hXS4 _ _ hl7A).1 (hXS4 _ _ hl7A).2 i8 eS9.symm dL_writes_64 ?_
          have hWS9 : wkWF S9 := by rw [eS9]; exact hWS4
          have hXS9 : wkExt S4 S9 := by rw [eS9]; exact wkExt.rf
          obtain ⟨x10, ex10, h⟩ := wkLt_some h
          refine wk_iinc C (lv' := [some (.ref l0A), some (.int l1I), some (.int l2I), some (.ref l3A), some (.int l4I), some (.int l5I), some (.int l6I), some (.ref l7A), some (.int x10), none, none]) dL_writes_65 rfl (by rw [ex10]; rfl) (by decide) rfl ?_
          refine wk_goto C (tgt := 26) dL_writes_68 (by decide) ?_
          exact wk_forget (lv' := [some (.ref l0A), some (.int l1I), some (.int l2I), some (.ref l3A), some (.int l4I), some (.int l5I), some (.int l6I), some (.ref l7A), some (.int x10), none, none]) (wkLs.le ⟨rfl, rfl, rfl, rfl, rfl, rfl, rfl, rfl, rfl, trivial⟩) (ih.1 _ _ hc hs _ _ _ _ _ _ _ _ _ _ hWS9 (wkExt.tr (wkExt.tr hE hXS4) hXS9) (hXS9 _ _ (hXS4 _ _ hl0A)) hl3A (hXS9 _ _ (hXS4 _ _ hl7A)) h)
        · rw [if_pos c2] at h
          refine wk_iload C dL_writes_44 rfl ?_
          refine wk_goto C (tgt := 64) dL_writes_46 (by decide) ?_
          obtain ⟨i11, h⟩ := h
          obtain ⟨S12, eS12, h⟩ := wkLt_some h
          refine wk_iast C hl7A.1 hl7A.2 i11 eS12.symm dL_writes_64 ?_
          have hWS12 : wkWF S12 := by rw [eS12]; exact hW
          have hXS12 : wkExt S S12 := by rw [eS12]; exact wkExt.rf
          obtain ⟨x13, ex13, h⟩ := wkLt_some h
          refine wk_iinc C (lv' := [some (.ref l0A), some (.int l1I), some (.int l2I), some (.ref l3A), some (.int l4I), some (.int l5I), some (.int l6I), some (.ref l7A), some (.int x13), none, none]) dL_writes_65 rfl (by rw [ex13]; rfl) (by decide) rfl ?_
          refine wk_goto C (tgt := 26) dL_writes_68 (by decide) ?_
          exact wk_forget (lv' := [some (.ref l0A), some (.int l1I), some (.int l2I), some (.ref l3A), some (.int l4I), some (.int l5I), some (.int l6I), some (.ref l7A), some (.int x13), none, none]) (wkLs.le ⟨rfl, rfl, rfl, rfl, rfl, rfl, rfl, rfl, rfl, trivial⟩) (ih.1 _ _ hc hs _ _ _ _ _ _ _ _ _ _ hWS12 (wkExt.tr hE hXS12) (hXS12 _ _ hl0A) hl3A (hXS12 _ _ hl7A) h)
    · intro c s hc hs l0A l1I l2I l3A l4I l5I l6I l7A l8I S hW hE hl0A hl3A hl7A h
      have h : rL_writes_b1 (wkXg X) F k n (rL_writes_go (wkXg X) F k n k') c s l0A l1I l2I l4I l5I l6I l7A l8I S Φ := by
        rw [rL_writes_go, if_neg (show ¬ (1 : Nat) = 0 by decide), if_pos (rfl : (1 : Nat) = 1)] at h
        exact h
      unfold rL_writes_b1 at h
      refine wk_iload C dL_writes_74 rfl ?_
      refine wk_bipush C (v := 103) dL_writes_76 (by decide) ?_
      refine wk_icmp_ne C (tgt := 137) dL_writes_78 (by decide) (fun c14 => ?_) (fun c14 => ?_)
      · rw [if_neg c14] at h
        exact wk_forget (lv' := [some (.ref l0A), some (.int l1I), some (.int l2I), none, none, none, none, some (.ref l7A), none, none, none]) (wkLs.le ⟨rfl, rfl, rfl, rfl, trivial⟩) (ih.2.2 _ _ hc hs _ _ _ _ _ hW hE hl0A hl7A h)
      · rw [if_pos c14] at h
        refine wk_iload C dL_writes_81 rfl ?_
        refine wk_iload C dL_writes_83 rfl ?_
        refine wk_icmp_ge C (tgt := 137) dL_writes_85 (by decide) (fun c15 => ?_) (fun c15 => ?_)
        · rw [if_pos c15] at h
          exact wk_forget (lv' := [some (.ref l0A), some (.int l1I), some (.int l2I), none, none, none, none, some (.ref l7A), none, none, none]) (wkLs.le ⟨rfl, rfl, rfl, rfl, trivial⟩) (ih.2.2 _ _ hc hs _ _ _ _ _ hW hE hl0A hl7A h)
        · rw [if_neg c15] at h
          refine wk_iload C dL_writes_88 rfl ?_
          refine wk_aload_n C dL_writes_90 rfl rfl ?_
          refine wk_iload C dL_writes_91 rfl ?_
          refine wk_iload C dL_writes_93 rfl ?_
          refine wk_iadd C dL_writes_95 rfl ?_
          refine wk_iload C dL_writes_96 rfl ?_
          refine wk_iload C dL_writes_98 rfl ?_
          refine wk_isub C dL_writes_100 rfl ?_
          refine wk_callW C hR (As := [.ref l3A, .int (l4I + l8I), .int (l6I - l8I)]) (cnt := 3) (tL_drawn (l := l) harg hW hl3A h) rfl (wkGoodW (List.mem_of_getElem? (i := 4) rfl) (List.mem_of_getElem? (i := 5) rfl) (List.mem_of_getElem? (i := 3) rfl) hbL_writes_L_drawn gdL_drawn) (Nat.le_trans (by decide : 1 + 1 ≤ 9) hd) (by decide) ⟨by decide, by decide, by decide +kernel⟩ rfl rfl (Nat.le_of_ble_eq_true rfl) hc hs dL_writes_101 (fun v' S17 hp => ?_)
          obtain ⟨v16, rfl, h, hWS17, hXS17⟩ := hp
          refine wk_iadd C dL_writes_104 rfl ?_
          obtain ⟨x21, ex21, h⟩ := wkLt_some h
          refine wk_topi ex21 ?_
          refine wk_istore C (lv' := [some (.ref l0A), some (.int l1I), some (.int l2I), some (.ref l3A), some (.int l4I), some (.int l5I), some (.int l6I), some (.ref l7A), some (.int l8I), some (.int x21), none]) dL_writes_105 (by decide) rfl ?_
          refine wk_aload C dL_writes_107 rfl ?_
          refine wk_iload C dL_writes_109 rfl ?_
          obtain ⟨i22, h⟩ := h
          refine wk_iald C (hXS17 _ _ hl7A).1 (hXS17 _ _ hl7A).2 i22 rfl dL_writes_111 ?_
          obtain ⟨x23, ex23, h⟩ := wkLt_some h
          refine wk_topi ex23 ?_
          refine wk_istore C (lv' := [some (.ref l0A), some (.int l1I), some (.int l2I), some (.ref l3A), some (.int l4I), some (.int l5I), some (.int l6I), some (.ref l7A), some (.int l8I), some (.int x21), some (.int x23)]) dL_writes_112 (by decide) rfl ?_
          refine wk_aload C dL_writes_114 rfl ?_
          refine wk_iload C dL_writes_116 rfl ?_
          refine wk_aload C dL_writes_118 rfl ?_
          refine wk_iload C dL_writes_120 rfl ?_
          obtain ⟨i24, h⟩ := h
          refine wk_iald C (hXS17 _ _ hl7A).1 (hXS17 _ _ hl7A).2 i24 rfl dL_writes_122 ?_
          obtain ⟨i25, h⟩ := h
          obtain ⟨S26, eS26, h⟩ := wkLt_some h
          refine wk_iast C (hXS17 _ _ hl7A).1 (hXS17 _ _ hl7A).2 i25 eS26.symm dL_writes_123 ?_
          have hWS26 : wkWF S26 := by rw [eS26]; exact hWS17
          have hXS26 : wkExt S17 S26 := by rw [eS26]; exact wkExt.rf
          refine wk_aload C dL_writes_124 rfl ?_
          refine wk_iload C dL_writes_126 rfl ?_
          refine wk_iload C dL_writes_128 rfl ?_
          obtain ⟨i27, h⟩ := h
          obtain ⟨S28, eS28, h⟩ := wkLt_some h
          refine wk_iast C (hXS26 _ _ (hXS17 _ _ hl7A)).1 (hXS26 _ _ (hXS17 _ _ hl7A)).2 i27 eS28.symm dL_writes_130 ?_
          have hWS28 : wkWF S28 := by rw [eS28]; exact hWS26
          have hXS28 : wkExt S26 S28 := by rw [eS28]; exact wkExt.rf
          obtain ⟨x29, ex29, h⟩ := wkLt_some h
          refine wk_iinc C (lv' := [some (.ref l0A), some (.int l1I), some (.int l2I), some (.ref l3A), some (.int l4I), some (.int l5I), some (.int l6I), some (.ref l7A), some (.int x29), some (.int x21), some (.int x23)]) dL_writes_131 rfl (by rw [ex29]; rfl) (by decide) rfl ?_
          refine wk_goto C (tgt := 74) dL_writes_134 (by decide) ?_
          exact wk_forget (lv' := [some (.ref l0A), some (.int l1I), some (.int l2I), some (.ref l3A), some (.int l4I), some (.int l5I), some (.int l6I), some (.ref l7A), some (.int x29), none, none]) (wkLs.le ⟨rfl, rfl, rfl, rfl, rfl, rfl, rfl, rfl, rfl, trivial⟩) (ih.2.1 _ _ hc hs _ _ _ _ _ _ _ _ _ _ hWS28 (wkExt.tr (wkExt.tr (wkExt.tr hE hXS17) hXS26) hXS28) (hXS28 _ _ (hXS26 _ _ (hXS17 _ _ hl0A))) hl3A (hXS28 _ _ (hXS26 _ _ (hXS17 _ _ hl7A))) h)
    · intro c s hc hs l0A l1I l2I l7A S hW hE hl0A hl7A h
      have h : rL_writes_b2 (wkXg X) F k n (rL_writes_go (wkXg X) F k n k') c s l0A l1I l2I l7A S Φ := by
        rw [rL_writes_go, if_neg (show ¬ (2 : Nat) = 0 by decide), if_neg (show ¬ (2 : Nat) = 1 by decide), if_pos (rfl : (2 : Nat) = 2)] at h
        exact h
      unfold rL_writes_b2 at h
      refine wk_iload_n C dL_writes_137 rfl rfl ?_
      refine wk_if_ge C (tgt := 169) dL_writes_138 (by decide) (fun c30 => ?_) (fun c30 => ?_)
      · rw [if_pos c30] at h
        refine wk_aload_n C dL_writes_169 rfl rfl ?_
        refine wk_iload_n C dL_writes_170 rfl rfl ?_
        refine wk_iload_n C dL_writes_171 rfl rfl ?_
        refine wk_aload C dL_writes_172 rfl ?_
        refine wk_iconst C (v := 0) dL_writes_174 (by decide) ?_
        obtain ⟨i31, h⟩ := h
        refine wk_iald C hl7A.1 hl7A.2 i31 rfl dL_writes_175 ?_
        refine wk_aload C dL_writes_176 rfl ?_
        refine wk_iconst C (v := 1) dL_writes_178 (by decide) ?_
        obtain ⟨i32, h⟩ := h
        refine wk_iald C hl7A.1 hl7A.2 i32 rfl dL_writes_179 ?_
        refine wk_aload C dL_writes_180 rfl ?_
        refine wk_iconst C (v := 2) dL_writes_182 (by decide) ?_
        obtain ⟨i33, h⟩ := h
        refine wk_iald C hl7A.1 hl7A.2 i33 rfl dL_writes_183 ?_
        refine wk_aload C dL_writes_184 rfl ?_
        refine wk_iconst C (v := 3) dL_writes_186 (by decide) ?_
        obtain ⟨i34, h⟩ := h
        refine wk_iald C hl7A.1 hl7A.2 i34 rfl dL_writes_187 ?_
        refine wk_aload C dL_writes_188 rfl ?_
        refine wk_iconst C (v := 4) dL_writes_190 (by decide) ?_
        obtain ⟨i35, h⟩ := h
        refine wk_iald C hl7A.1 hl7A.2 i35 rfl dL_writes_191 ?_
        obtain ⟨k39, n40, hk39, hn40, h⟩ := h
        refine wk_callT C hR (As := [.ref l0A, .int l1I, .int l2I, .int (S.rI l7A ((0 : Int32)).toNatClampNeg), .int (S.rI l7A ((1 : Int32)).toNatClampNeg), .int (S.rI l7A ((2 : Int32)).toNatClampNeg), .int (S.rI l7A ((3 : Int32)).toNatClampNeg), .int (S.rI l7A ((4 : Int32)).toNatClampNeg)]) (cnt := 8) (tL_change (l := l) hcs hex hlt hW hl0A h) rfl (wkGoodW (List.mem_of_getElem? (i := 6) rfl) (List.mem_of_getElem? (i := 7) rfl) (List.mem_of_getElem? (i := 3) rfl) hbL_writes_L_change gdL_change) (Nat.le_trans (by decide : 8 + 1 ≤ 9) hd) (by decide) ⟨by decide, by decide, by decide +kernel⟩ rfl rfl (Nat.le_of_ble_eq_true rfl) hk39 hn40 dL_writes_192 (fun v' S37 hp => ?_)
        obtain ⟨v36, rfl, h, hWS37, hXS37⟩ := hp
        exact E _ _ _ _ _ _ hk39 hn40 dL_writes_195 ⟨v36, rfl, h, hWS37, (wkExt.tr hE hXS37)⟩
      · rw [if_neg c30] at h
        refine wk_aload_n C dL_writes_141 rfl rfl ?_
        refine wk_iload_n C dL_writes_142 rfl rfl ?_
        refine wk_aload C dL_writes_143 rfl ?_
        refine wk_iconst C (v := 0) dL_writes_145 (by decide) ?_
        obtain ⟨i41, h⟩ := h
        refine wk_iald C hl7A.1 hl7A.2 i41 rfl dL_writes_146 ?_
        refine wk_aload C dL_writes_147 rfl ?_
        refine wk_iconst C (v := 1) dL_writes_149 (by decide) ?_
        obtain ⟨i42, h⟩ := h
        refine wk_iald C hl7A.1 hl7A.2 i42 rfl dL_writes_150 ?_
        refine wk_aload C dL_writes_151 rfl ?_
        refine wk_iconst C (v := 2) dL_writes_153 (by decide) ?_
        obtain ⟨i43, h⟩ := h
        refine wk_iald C hl7A.1 hl7A.2 i43 rfl dL_writes_154 ?_
        refine wk_aload C dL_writes_155 rfl ?_
        refine wk_iconst C (v := 3) dL_writes_157 (by decide) ?_
        obtain ⟨i44, h⟩ := h
        refine wk_iald C hl7A.1 hl7A.2 i44 rfl dL_writes_158 ?_
        refine wk_aload C dL_writes_159 rfl ?_
        refine wk_iconst C (v := 4) dL_writes_161 (by decide) ?_
        obtain ⟨i45, h⟩ := h
        refine wk_iald C hl7A.1 hl7A.2 i45 rfl dL_writes_162 ?_
        obtain ⟨k49, n50, hk49, hn50, h⟩ := h
        refine wk_callT C hR (As := [.ref l0A, .int l1I, .int (S.rI l7A ((0 : Int32)).toNatClampNeg), .int (S.rI l7A ((1 : Int32)).toNatClampNeg), .int (S.rI l7A ((2 : Int32)).toNatClampNeg), .int (S.rI l7A ((3 : Int32)).toNatClampNeg), .int (S.rI l7A ((4 : Int32)).toNatClampNeg)]) (cnt := 7) (tL_put (l := l) hst hcs hex hlt hW hl0A h) rfl (wkGoodW (List.mem_of_getElem? (i := 8) rfl) (List.mem_of_getElem? (i := 9) rfl) (List.mem_of_getElem? (i := 3) rfl) hbL_writes_L_put gdL_put) (Nat.le_trans (by decide : 8 + 1 ≤ 9) hd) (by decide) ⟨by decide, by decide, by decide +kernel⟩ rfl rfl (Nat.le_of_ble_eq_true rfl) hk49 hn50 dL_writes_163 (fun v' S47 hp => ?_)
        obtain ⟨v46, rfl, h, hWS47, hXS47⟩ := hp
        refine wk_goto C (tgt := 195) dL_writes_166 (by decide) ?_
        exact E _ _ _ _ _ _ hk49 hn50 dL_writes_195 ⟨v46, rfl, h, hWS47, (wkExt.tr hE hXS47)⟩
set_option maxHeartbeats 4000000 in
set_option maxRecDepth 100000 in
theorem tL_writes {l : Launch} {g : wkG} {F : Nat} {k n : Nat}  {S : wPS} {l0A : Nat} {l1I : Int32} {l2I : Int32} {l3A : Nat} {l4I : Int32} {Φ : (Int64 → wPS → Prop)} (hst : wkSta g) (hstr : wkStr g) (hcs : wkCast g) (harg : wkArg g) (hex : wkExA g) (hlt : l.stackTraces = false) (hW : wkWF S) (hl0A : wkIs S l0A 11) (hl3A : l3A = g.1 8) (h : rL_writes g F k n l0A l1I l2I l4I S Φ) : wkMet l g yL_writes wvL_writes 9 k n [.ref l0A, .int l1I, .int l2I, .ref l3A, .int l4I] S (fun v' S'' => ∃ v : Int64, v' = some (.long v) ∧ Φ v S'' ∧ wkWF S'' ∧ wkExt S S'') := by
  refine wkMet_of (ret := (some .long)) (by decide) rfl (Nat.le_of_ble_eq_true rfl) (fun X hg C hR E => ?_)
  subst hg
  have hE : wkExt S S := wkExt.rf
  have hd : 9 ≤ 9 := Nat.le_refl _
  show wkGo l X 11 0 0 0 S [some (.ref l0A), some (.int l1I), some (.int l2I), some (.ref l3A), some (.int l4I), none, none, none, none, none, none] []
  have ih := tL_writes_go (F := F) hst hstr hcs harg hex hlt C hR hd E F
  have h : rL_writes_s (wkXg X) F k n (rL_writes_go (wkXg X) F k n F) l0A l1I l2I l4I S Φ := h
  unfold rL_writes_s at h
  refine wk_aload_n C dL_writes_0 rfl rfl ?_
  refine wk_iload_n C dL_writes_1 rfl rfl ?_
  obtain ⟨k54, n55, hk54, hn55, h⟩ := h
  refine wk_callT C hR (As := [.ref l0A, .int l1I]) (cnt := 2) (tL_kindOf (l := l) hstr hcs hex hlt hW hl0A h) rfl (wkGoodW (List.mem_of_getElem? (i := 10) rfl) (List.mem_of_getElem? (i := 11) rfl) (List.mem_of_getElem? (i := 3) rfl) hbL_writes_L_kindOf gdL_kindOf) (Nat.le_trans (by decide : 8 + 1 ≤ 9) hd) (by decide) ⟨by decide, by decide, by decide +kernel⟩ rfl rfl (Nat.le_of_ble_eq_true rfl) hk54 hn55 dL_writes_2 (fun v' S52 hp => ?_)
  obtain ⟨v51, rfl, h, hWS52, hXS52⟩ := hp
  refine wk_l2i C dL_writes_5 rfl ?_
  refine wk_i2c C dL_writes_6 rfl ?_
  obtain ⟨x56, ex56, h⟩ := wkLt_some h
  refine wk_topi ex56 ?_
  refine wk_istore C (lv' := [some (.ref l0A), some (.int l1I), some (.int l2I), some (.ref l3A), some (.int l4I), some (.int x56), none, none, none, none, none]) dL_writes_7 (by decide) rfl ?_
  refine wk_aload_n C dL_writes_9 rfl rfl ?_
  refine wk_iload_n C dL_writes_10 rfl rfl ?_
  obtain ⟨k60, n61, hk60, hn61, h⟩ := h
  refine wk_callT C hR (As := [.ref l0A, .int l1I]) (cnt := 2) (tL_sizeOf (l := l) hcs hex hlt hWS52 (hXS52 _ _ hl0A) h) rfl (wkGoodW (List.mem_of_getElem? (i := 12) rfl) (List.mem_of_getElem? (i := 13) rfl) (List.mem_of_getElem? (i := 3) rfl) hbL_writes_L_sizeOf gdL_sizeOf) (Nat.le_trans (by decide : 8 + 1 ≤ 9) hd) (by decide) ⟨by decide, by decide, by decide +kernel⟩ rfl rfl (Nat.le_of_ble_eq_true rfl) hk60 hn61 dL_writes_11 (fun v' S58 hp => ?_)
  obtain ⟨v57, rfl, h, hWS58, hXS58⟩ := hp
  refine wk_l2i C dL_writes_14 rfl ?_
  obtain ⟨x62, ex62, h⟩ := wkLt_some h
  refine wk_topi ex62 ?_
  refine wk_istore C (lv' := [some (.ref l0A), some (.int l1I), some (.int l2I), some (.ref l3A), some (.int l4I), some (.int x56), some (.int x62), none, none, none, none]) dL_writes_15 (by decide) rfl ?_
  refine wk_bipush C (v := 6) dL_writes_17 (by decide) ?_
  obtain ⟨h63a, h63b, h63c, h63d, h⟩ := h
  refine wk_newI C hR (List.mem_of_getElem? (i := 14) rfl) h63a h63b h63c h63d dL_writes_19 (fun q64 h63e => ?_)
  obtain ⟨S65, eS65, h⟩ := wkLt_some (h q64 h63e)
  rw [← eS65]
  obtain ⟨hWS65, hXS65, hIS65⟩ := wkWF_newI eS65 hWS58 h63e
  refine wk_astore C (lv' := [some (.ref l0A), some (.int l1I), some (.int l2I), some (.ref l3A), some (.int l4I), some (.int x56), some (.int x62), some (.ref q64), none, none, none]) dL_writes_21 (by decide) rfl ?_
  refine wk_iconst C (v := 0) dL_writes_23 (by decide) ?_
  refine wk_istore C (lv' := [some (.ref l0A), some (.int l1I), some (.int l2I), some (.ref l3A), some (.int l4I), some (.int x56), some (.int x62), some (.ref q64), some (.int (0 : Int32)), none, none]) dL_writes_24 (by decide) rfl ?_
  exact wk_forget (lv' := [some (.ref l0A), some (.int l1I), some (.int l2I), some (.ref l3A), some (.int l4I), some (.int x56), some (.int x62), some (.ref q64), some (.int (0 : Int32)), none, none]) (wkLs.le ⟨rfl, rfl, rfl, rfl, rfl, rfl, rfl, rfl, rfl, trivial⟩) (ih.1 _ _ h63b h63c _ _ _ _ _ _ _ _ _ _ hWS65 (wkExt.tr (wkExt.tr (wkExt.tr hE hXS52) hXS58) hXS65) (hXS65 _ _ (hXS58 _ _ (hXS52 _ _ hl0A))) hl3A hIS65 h)
