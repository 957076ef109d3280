def wvL_number : List Cond := .codeWith yL_number cL_number 3 (some .long) [(0, 6, 7, 28)] :: (([.constantLong RL 18 (-4000000000000000001), .methodLink RL 91 yX11_number, .instanceMethod yX11_number, .selects RX11 yX11_number yX11_number, .initialized RX11, .classLink RL 28 "java/lang/IndexOutOfBoundsException"] : List Cond) ++ (([]) ++ (wvX11_number)))
theorem hbL_number_X11_number : ∀ w ∈ wvX11_number, w ∈ wvL_number := fun w h => List.mem_cons_of_mem _ (List.mem_append_right _ (List.mem_append_right _ h))
theorem gdL_number : ∀ w ∈ wvL_number, wkGd w := wkGdC rfl (wkGdA (wkGdL (by decide +kernel)) (wkGdA (fun _ h => absurd h List.not_mem_nil) gdX11_number))
def rL_number (G : wkG) (F : Nat) (k n : Nat) (l0A : Nat) (l1I : Int32) (S : wPS) (Φ : (Int64 → wPS → Prop)) : Prop :=
  ∃ k4 n5 : Nat, 0 + k4 ≤ k ∧ 0 + n5 ≤ n ∧ rX11_number F k4 n5 l0A l1I S (fun v1 S2 => Φ (Int32.toInt64 v1) S2) (fun E6 S7 => if E6 = "java/lang/IndexOutOfBoundsException" then (Φ (-4000000000000000001 : Int64) S7) else False)
set_option maxHeartbeats 4000000 in
set_option maxRecDepth 100000 in
theorem tL_number {l : Launch} {g : wkG} {F : Nat} {k n : Nat}  {S : wPS} {l0A : Nat} {l1I : Int32} {Φ : (Int64 → wPS → Prop)} (hst : wkSta g) (hcs : wkCast g) (hex : wkExA g) (hlt : l.stackTraces = false) (hW : wkWF S) (hl0A : wkIs S l0A 11) (h : rL_number g F k n l0A l1I S Φ) : wkMet l g yL_number wvL_number 57 k n [.ref l0A, .int l1I] S (fun v' S'' => ∃ v : Int64, v' = some (.long v) ∧ Φ v S'' ∧ wkWF S'' ∧ wkExt S S'') := by
  refine wkMet_ofT (ret := (some .long)) (plainFor_of_name (by decide)) rfl (Nat.le_of_ble_eq_true rfl) (fun X hg C hR hT E => ?_)
  subst hg
  have hE : wkExt S S := wkExt.rf
  have hd : 57 ≤ 57 := Nat.le_refl _
  show wkGo l X 3 0 0 0 S [some (.ref l0A), some (.int l1I), none] []
  unfold rL_number at h
  refine wk_aload_n C dL_number_0 rfl rfl ?_
  refine wk_iload_n C dL_number_1 rfl rfl ?_
  obtain ⟨k4, n5, hk4, hn5, h⟩ := h
  refine wk_callVH C hT hcs hR (As := [.int l1I]) (cnt := 1) (tX11_number (l := l) hst hex hlt hW hl0A h) rfl (wkGoodV (List.mem_of_getElem? (i := 2) rfl) (List.mem_of_getElem? (i := 3) rfl) (List.mem_of_getElem? (i := 4) rfl) (List.mem_of_getElem? (i := 5) rfl) hbL_number_X11_number gdX11_number) (Nat.le_trans (by decide : 56 + 1 ≤ 57) hd) (by decide) hl0A.1 (fun cy => wAt_11 cy _ hl0A.2) rfl ⟨by decide, by decide, by decide +kernel⟩ rfl rfl (Nat.le_of_ble_eq_true rfl) hk4 hn5 dL_number_2 (fun E6 S7 hx => ?_) (fun v' S2 hp => ?_)
  · obtain ⟨hx, hWS7, hXS7⟩ := hx
    rcases wkIf hx with ⟨cE, h⟩ | ⟨-, hx⟩
    · subst cE
      refine ⟨[], [], 0, 6, 7, 28, rfl, (fun _ h => absurd h List.not_mem_nil), rfl, by decide, (List.mem_of_getElem? (i := 6) rfl), by decide +kernel, fun q8 => ?_⟩
      refine wk_astore_n C (lv' := [some (.ref l0A), some (.int l1I), some (.ref q8)]) dL_number_7 rfl (by decide) rfl ?_
      refine wk_ldc2 C (v := (-4000000000000000001)) (List.mem_of_getElem? (i := 1) rfl) dL_number_8 ?_
      exact E _ _ _ _ _ _ hk4 hn5 dL_number_11 ⟨(-4000000000000000001 : Int64), rfl, h, hWS7, (wkExt.tr hE hXS7)⟩
    · exact hx.elim
  obtain ⟨v1, rfl, h, hWS2, hXS2⟩ := hp
  refine wk_i2l C dL_number_5 rfl ?_
  exact E _ _ _ _ _ _ hk4 hn5 dL_number_6 ⟨(Int32.toInt64 v1), rfl, h, hWS2, (wkExt.tr hE hXS2)⟩
def wvL_length : List Cond := .codeWith yL_length cL_length 3 (some .long) [(0, 6, 7, 28)] :: (([.constantLong RL 18 (-4000000000000000001), .methodLink RL 94 yX11_length, .instanceMethod yX11_length, .selects RX11 yX11_length yX11_length, .initialized RX11, .classLink RL 28 "java/lang/IndexOutOfBoundsException"] : List Cond) ++ (([]) ++ (wvX11_length)))
theorem hbL_length_X11_length : ∀ w ∈ wvX11_length, w ∈ wvL_length := fun w h => List.mem_cons_of_mem _ (List.mem_append_right _ (List.mem_append_right _ h))
theorem gdL_length : ∀ w ∈ wvL_length, wkGd w := wkGdC rfl (wkGdA (wkGdL (by decide +kernel)) (wkGdA (fun _ h => absurd h List.not_mem_nil) gdX11_length))
def rL_length (G : wkG) (F : Nat) (k n : Nat) (l0A : Nat) (l1I : Int32) (S : wPS) (Φ : (Int64 → wPS → Prop)) : Prop :=
  ∃ k4 n5 : Nat, 0 + k4 ≤ k ∧ 0 + n5 ≤ n ∧ rX11_length F k4 n5 l0A l1I S (fun v1 S2 => Φ (Int32.toInt64 v1) S2) (fun E6 S7 => if E6 = "java/lang/IndexOutOfBoundsException" then (Φ (-4000000000000000001 : Int64) S7) else False)
set_option maxHeartbeats 4000000 in
set_option maxRecDepth 100000 in
theorem tL_length {l : Launch} {g : wkG} {F : Nat} {k n : Nat}  {S : wPS} {l0A : Nat} {l1I : Int32} {Φ : (Int64 → wPS → Prop)} (hst : wkSta g) (hcs : wkCast g) (hex : wkExA g) (hlt : l.stackTraces = false) (hW : wkWF S) (hl0A : wkIs S l0A 11) (h : rL_length g F k n l0A l1I S Φ) : wkMet l g yL_length wvL_length 57 k n [.ref l0A, .int l1I] S (fun v' S'' => ∃ v : Int64, v' = some (.long v) ∧ Φ v S'' ∧ wkWF S'' ∧ wkExt S S'') := by
  refine wkMet_ofT (ret := (some .long)) (plainFor_of_name (by decide)) rfl (Nat.le_of_ble_eq_true rfl) (fun X hg C hR hT E => ?_)
  subst hg
  have hE : wkExt S S := wkExt.rf
  have hd : 57 ≤ 57 := Nat.le_refl _
  show wkGo l X 3 0 0 0 S [some (.ref l0A), some (.int l1I), none] []
  unfold rL_length at h
  refine wk_aload_n C dL_length_0 rfl rfl ?_
  refine wk_iload_n C dL_length_1 rfl rfl ?_
  obtain ⟨k4, n5, hk4, hn5, h⟩ := h
  refine wk_callVH C hT hcs hR (As := [.int l1I]) (cnt := 1) (tX11_length (l := l) hst hex hlt hW hl0A h) rfl (wkGoodV (List.mem_of_getElem? (i := 2) rfl) (List.mem_of_getElem? (i := 3) rfl) (List.mem_of_getElem? (i := 4) rfl) (List.mem_of_getElem? (i := 5) rfl) hbL_length_X11_length gdX11_length) (Nat.le_trans (by decide : 56 + 1 ≤ 57) hd) (by decide) hl0A.1 (fun cy => wAt_11 cy _ hl0A.2) rfl ⟨by decide, by decide, by decide +kernel⟩ rfl rfl (Nat.le_of_ble_eq_true rfl) hk4 hn5 dL_length_2 (fun E6 S7 hx => ?_) (fun v' S2 hp => ?_)
  · obtain ⟨hx, hWS7, hXS7⟩ := hx
    rcases wkIf hx with ⟨cE, h⟩ | ⟨-, hx⟩
    · subst cE
      refine ⟨[], [], 0, 6, 7, 28, rfl, (fun _ h => absurd h List.not_mem_nil), rfl, by decide, (List.mem_of_getElem? (i := 6) rfl), by decide +kernel, fun q8 => ?_⟩
      refine wk_astore_n C (lv' := [some (.ref l0A), some (.int l1I), some (.ref q8)]) dL_length_7 rfl (by decide) rfl ?_
      refine wk_ldc2 C (v := (-4000000000000000001)) (List.mem_of_getElem? (i := 1) rfl) dL_length_8 ?_
      exact E _ _ _ _ _ _ hk4 hn5 dL_length_11 ⟨(-4000000000000000001 : Int64), rfl, h, hWS7, (wkExt.tr hE hXS7)⟩
    · exact hx.elim
  obtain ⟨v1, rfl, h, hWS2, hXS2⟩ := hp
  refine wk_i2l C dL_length_5 rfl ?_
  exact E _ _ _ _ _ _ hk4 hn5 dL_length_6 ⟨(Int32.toInt64 v1), rfl, h, hWS2, (wkExt.tr hE hXS2)⟩
def wvL_rowSum : List Cond := .codeWith yL_rowSum cL_rowSum 3 (some .long) [(0, 5, 6, 28)] :: (([.constantLong RL 18 (-4000000000000000001), .methodLink RL 97 yX11_rowSum, .instanceMethod yX11_rowSum, .selects RX11 yX11_rowSum yX11_rowSum, .initialized RX11, .classLink RL 28 "java/lang/IndexOutOfBoundsException"] : List Cond) ++ (([]) ++ (wvX11_rowSum)))
theorem hbL_rowSum_X11_rowSum : ∀ w ∈ wvX11_rowSum, w ∈ wvL_rowSum := fun w h => List.mem_cons_of_mem _ (List.mem_append_right _ (List.mem_append_right _ h))
theorem gdL_rowSum : ∀ w ∈ wvL_rowSum, wkGd w := wkGdC rfl (wkGdA (wkGdL (by decide +kernel)) (wkGdA (fun _ h => absurd h List.not_mem_nil) gdX11_rowSum))
def rL_rowSum (G : wkG) (F : Nat) (k n : Nat) (l0A : Nat) (l1I : Int32) (S : wPS) (Φ : (Int64 → wPS → Prop)) : Prop :=
  ∃ k4 n5 : Nat, 0 + k4 ≤ k ∧ 0 + n5 ≤ n ∧ rX11_rowSum F k4 n5 l0A l1I S (fun v1 S2 => Φ v1 S2) (fun E6 S7 => if E6 = "java/lang/IndexOutOfBoundsException" then (Φ (-4000000000000000001 : Int64) S7) else False)
set_option maxHeartbeats 4000000 in
set_option maxRecDepth 100000 in
theorem tL_rowSum {l : Launch} {g : wkG} {F : Nat} {k n : Nat}  {S : wPS} {l0A : Nat} {l1I : Int32} {Φ : (Int64 → wPS → Prop)} (hst : wkSta g) (hcs : wkCast g) (hex : wkExA g) (hlt : l.stackTraces = false) (hW : wkWF S) (hl0A : wkIs S l0A 11) (h : rL_rowSum g F k n l0A l1I S Φ) : wkMet l g yL_rowSum wvL_rowSum 57 k n [.ref l0A, .int l1I] S (fun v' S'' => ∃ v : Int64, v' = some (.long v) ∧ Φ v S'' ∧ wkWF S'' ∧ wkExt S S'') := by
  refine wkMet_ofT (ret := (some .long)) (plainFor_of_name (by decide)) rfl (Nat.le_of_ble_eq_true rfl) (fun X hg C hR hT E => ?_)
  subst hg
  have hE : wkExt S S := wkExt.rf
  have hd : 57 ≤ 57 := Nat.le_refl _
  show wkGo l X 3 0 0 0 S [some (.ref l0A), some (.int l1I), none] []
  unfold rL_rowSum at h
  refine wk_aload_n C dL_rowSum_0 rfl rfl ?_
  refine wk_iload_n C dL_rowSum_1 rfl rfl ?_
  obtain ⟨k4, n5, hk4, hn5, h⟩ := h
  refine wk_callVH C hT hcs hR (As := [.int l1I]) (cnt := 1) (tX11_rowSum (l := l) hst hex hlt hW hl0A h) rfl (wkGoodV (List.mem_of_getElem? (i := 2) rfl) (List.mem_of_getElem? (i := 3) rfl) (List.mem_of_getElem? (i := 4) rfl) (List.mem_of_getElem? (i := 5) rfl) hbL_rowSum_X11_rowSum gdX11_rowSum) (Nat.le_trans (by decide : 56 + 1 ≤ 57) hd) (by decide) hl0A.1 (fun cy => wAt_11 cy _ hl0A.2) rfl ⟨by decide, by decide, by decide +kernel⟩ rfl rfl (Nat.le_of_ble_eq_true rfl) hk4 hn5 dL_rowSum_2 (fun E6 S7 hx => ?_) (fun v' S2 hp => ?_)
  · obtain ⟨hx, hWS7, hXS7⟩ := hx
    rcases wkIf hx with ⟨cE, h⟩ | ⟨-, hx⟩
    · subst cE
      refine ⟨[], [], 0, 5, 6, 28, rfl, (fun _ h => absurd h List.not_mem_nil), rfl, by decide, (List.mem_of_getElem? (i := 6) rfl), by decide +kernel, fun q8 => ?_⟩
      refine wk_astore_n C (lv' := [some (.ref l0A), some (.int l1I), some (.ref q8)]) dL_rowSum_6 rfl (by decide) rfl ?_
      refine wk_ldc2 C (v := (-4000000000000000001)) (List.mem_of_getElem? (i := 1) rfl) dL_rowSum_7 ?_
      exact E _ _ _ _ _ _ hk4 hn5 dL_rowSum_10 ⟨(-4000000000000000001 : Int64), rfl, h, hWS7, (wkExt.tr hE hXS7)⟩
    · exact hx.elim
  obtain ⟨v1, rfl, h, hWS2, hXS2⟩ := hp
  exact E _ _ _ _ _ _ hk4 hn5 dL_rowSum_5 ⟨v1, rfl, h, hWS2, (wkExt.tr hE hXS2)⟩
def wvL_borrow : List Cond := .codeWith yL_borrow cL_borrow 3 (some .long) [(0, 6, 7, 28), (0, 6, 12, 30)] :: (([.constantLong RL 18 (-4000000000000000001), .constantLong RL 22 (-4000000000000000002), .methodLink RL 120 yX11_borrow, .instanceMethod yX11_borrow, .selects RX11 yX11_borrow yX11_borrow, .initialized RX11, .classLink RL 28 "java/lang/IndexOutOfBoundsException", .classLink RL 30 "java/lang/UnsupportedOperationException"] : List Cond) ++ (([]) ++ (wvX11_borrow)))
theorem hbL_borrow_X11_borrow : ∀ w ∈ wvX11_borrow, w ∈ wvL_borrow := fun w h => List.mem_cons_of_mem _ (List.mem_append_right _ (List.mem_append_right _ h))
theorem gdL_borrow : ∀ w ∈ wvL_borrow, wkGd w := wkGdC rfl (wkGdA (wkGdL (by decide +kernel)) (wkGdA (fun _ h => absurd h List.not_mem_nil) gdX11_borrow))
def rL_borrow (G : wkG) (F : Nat) (k n : Nat) (l0A : Nat) (l1I : Int32) (S : wPS) (Φ : (Int64 → wPS → Prop)) : Prop :=
  ∃ k4 n5 : Nat, 0 + k4 ≤ k ∧ 0 + n5 ≤ n ∧ rX11_borrow F k4 n5 l0A l1I S (fun v1 S2 => Φ (Int32.toInt64 v1) S2) (fun E6 S7 => if E6 = "java/lang/IndexOutOfBoundsException" then (Φ (-4000000000000000001 : Int64) S7) else if E6 = "java/lang/UnsupportedOperationException" then (Φ (-4000000000000000002 : Int64) S7) else False)
set_option maxHeartbeats 4000000 in
set_option maxRecDepth 100000 in
theorem tL_borrow {l : Launch} {g : wkG} {F : Nat} {k n : Nat}  {S : wPS} {l0A : Nat} {l1I : Int32} {Φ : (Int64 → wPS → Prop)} (hst : wkSta g) (hcs : wkCast g) (hex : wkExA g) (hlt : l.stackTraces = false) (hW : wkWF S) (hl0A : wkIs S l0A 11) (h : rL_borrow g F k n l0A l1I S Φ) : wkMet l g yL_borrow wvL_borrow 57 k n [.ref l0A, .int l1I] S (fun v' S'' => ∃ v : Int64, v' = some (.long v) ∧ Φ v S'' ∧ wkWF S'' ∧ wkExt S S'') := by
  refine wkMet_ofT (ret := (some .long)) (plainFor_of_name (by decide)) rfl (Nat.le_of_ble_eq_true rfl) (fun X hg C hR hT E => ?_)
  subst hg
  have hE : wkExt S S := wkExt.rf
  have hd : 57 ≤ 57 := Nat.le_refl _
  show wkGo l X 3 0 0 0 S [some (.ref l0A), some (.int l1I), none] []
  unfold rL_borrow at h
  refine wk_aload_n C dL_borrow_0 rfl rfl ?_
  refine wk_iload_n C dL_borrow_1 rfl rfl ?_
  obtain ⟨k4, n5, hk4, hn5, h⟩ := h
  refine wk_callVH C hT hcs hR (As := [.int l1I]) (cnt := 1) (tX11_borrow (l := l) hst hex hlt hW hl0A h) rfl (wkGoodV (List.mem_of_getElem? (i := 3) rfl) (List.mem_of_getElem? (i := 4) rfl) (List.mem_of_getElem? (i := 5) rfl) (List.mem_of_getElem? (i := 6) rfl) hbL_borrow_X11_borrow gdX11_borrow) (Nat.le_trans (by decide : 56 + 1 ≤ 57) hd) (by decide) hl0A.1 (fun cy => wAt_11 cy _ hl0A.2) rfl ⟨by decide, by decide, by decide +kernel⟩ rfl rfl (Nat.le_of_ble_eq_true rfl) hk4 hn5 dL_borrow_2 (fun E6 S7 hx => ?_) (fun v' S2 hp => ?_)
  · obtain ⟨hx, hWS7, hXS7⟩ := hx
    rcases wkIf hx with ⟨cE, h⟩ | ⟨-, hx⟩
    · subst cE
      refine ⟨[], [(0, 6, 12, 30)], 0, 6, 7, 28, rfl, (fun _ h => absurd h List.not_mem_nil), rfl, by decide, (List.mem_of_getElem? (i := 7) rfl), by decide +kernel, fun q8 => ?_⟩
      refine wk_astore_n C (lv' := [some (.ref l0A), some (.int l1I), some (.ref q8)]) dL_borrow_7 rfl (by decide) rfl ?_
      refine wk_ldc2 C (v := (-4000000000000000001)) (List.mem_of_getElem? (i := 1) rfl) dL_borrow_8 ?_
      exact E _ _ _ _ _ _ hk4 hn5 dL_borrow_11 ⟨(-4000000000000000001 : Int64), rfl, h, hWS7, (wkExt.tr hE hXS7)⟩
    · skip
      rcases wkIf hx with ⟨cE, h⟩ | ⟨-, hx⟩
      · subst cE
        refine ⟨[(0, 6, 7, 28)], [], 0, 6, 12, 30, rfl, (List.forall_mem_cons.mpr ⟨⟨by decide, "java/lang/IndexOutOfBoundsException", (List.mem_of_getElem? (i := 7) rfl), by decide +kernel⟩, (fun _ h => absurd h List.not_mem_nil)⟩), rfl, by decide, (List.mem_of_getElem? (i := 8) rfl), by decide +kernel, fun q9 => ?_⟩
        refine wk_astore_n C (lv' := [some (.ref l0A), some (.int l1I), some (.ref q9)]) dL_borrow_12 rfl (by decide) rfl ?_
        refine wk_ldc2 C (v := (-4000000000000000002)) (List.mem_of_getElem? (i := 2) rfl) dL_borrow_13 ?_
        exact E _ _ _ _ _ _ hk4 hn5 dL_borrow_16 ⟨(-4000000000000000002 : Int64), rfl, h, hWS7, (wkExt.tr hE hXS7)⟩
      · exact hx.elim
  obtain ⟨v1, rfl, h, hWS2, hXS2⟩ := hp
  refine wk_i2l C dL_borrow_5 rfl ?_
  exact E _ _ _ _ _ _ hk4 hn5 dL_borrow_6 ⟨(Int32.toInt64 v1), rfl, h, hWS2, (wkExt.tr hE hXS2)⟩
def wvL_bring : List Cond := .codeWith yL_bring cL_bring 3 (some .long) [(0, 6, 7, 28), (0, 6, 12, 30)] :: (([.constantLong RL 18 (-4000000000000000001), .constantLong RL 22 (-4000000000000000002), .methodLink RL 123 yX11_bring, .instanceMethod yX11_bring, .selects RX11 yX11_bring yX11_bring, .initialized RX11, .classLink RL 28 "java/lang/IndexOutOfBoundsException", .classLink RL 30 "java/lang/UnsupportedOperationException"] : List Cond) ++ (([]) ++ (wvX11_bring)))
theorem hbL_bring_X11_bring : ∀ w ∈ wvX11_bring, w ∈ wvL_bring := fun w h => List.mem_cons_of_mem _ (List.mem_append_right _ (List.mem_append_right _ h))
theorem gdL_bring : ∀ w ∈ wvL_bring, wkGd w := wkGdC rfl (wkGdA (wkGdL (by decide +kernel)) (wkGdA (fun _ h => absurd h List.not_mem_nil) gdX11_bring))
def rL_bring (G : wkG) (F : Nat) (k n : Nat) (l0A : Nat) (l1I : Int32) (S : wPS) (Φ : (Int64 → wPS → Prop)) : Prop :=
  ∃ k4 n5 : Nat, 0 + k4 ≤ k ∧ 0 + n5 ≤ n ∧ rX11_bring F k4 n5 l0A l1I S (fun v1 S2 => Φ (Int32.toInt64 v1) S2) (fun E6 S7 => if E6 = "java/lang/IndexOutOfBoundsException" then (Φ (-4000000000000000001 : Int64) S7) else if E6 = "java/lang/UnsupportedOperationException" then (Φ (-4000000000000000002 : Int64) S7) else False)
set_option maxHeartbeats 4000000 in
set_option maxRecDepth 100000 in
theorem tL_bring {l : Launch} {g : wkG} {F : Nat} {k n : Nat}  {S : wPS} {l0A : Nat} {l1I : Int32} {Φ : (Int64 → wPS → Prop)} (hst : wkSta g) (hcs : wkCast g) (hex : wkExA g) (hlt : l.stackTraces = false) (hW : wkWF S) (hl0A : wkIs S l0A 11) (h : rL_bring g F k n l0A l1I S Φ) : wkMet l g yL_bring wvL_bring 57 k n [.ref l0A, .int l1I] S (fun v' S'' => ∃ v : Int64, v' = some (.long v) ∧ Φ v S'' ∧ wkWF S'' ∧ wkExt S S'') := by
  refine wkMet_ofT (ret := (some .long)) (plainFor_of_name (by decide)) rfl (Nat.le_of_ble_eq_true rfl) (fun X hg C hR hT E => ?_)
  subst hg
  have hE : wkExt S S := wkExt.rf
  have hd : 57 ≤ 57 := Nat.le_refl _
  show wkGo l X 3 0 0 0 S [some (.ref l0A), some (.int l1I), none] []
  unfold rL_bring at h
  refine wk_aload_n C dL_bring_0 rfl rfl ?_
  refine wk_iload_n C dL_bring_1 rfl rfl ?_
  obtain ⟨k4, n5, hk4, hn5, h⟩ := h
  refine wk_callVH C hT hcs hR (As := [.int l1I]) (cnt := 1) (tX11_bring (l := l) hst hex hlt hW hl0A h) rfl (wkGoodV (List.mem_of_getElem? (i := 3) rfl) (List.mem_of_getElem? (i := 4) rfl) (List.mem_of_getElem? (i := 5) rfl) (List.mem_of_getElem? (i := 6) rfl) hbL_bring_X11_bring gdX11_bring) (Nat.le_trans (by decide : 56 + 1 ≤ 57) hd) (by decide) hl0A.1 (fun cy => wAt_11 cy _ hl0A.2) rfl ⟨by decide, by decide, by decide +kernel⟩ rfl rfl (Nat.le_of_ble_eq_true rfl) hk4 hn5 dL_bring_2 (fun E6 S7 hx => ?_) (fun v' S2 hp => ?_)
  · obtain ⟨hx, hWS7, hXS7⟩ := hx
    rcases wkIf hx with ⟨cE, h⟩ | ⟨-, hx⟩
    · subst cE
      refine ⟨[], [(0, 6, 12, 30)], 0, 6, 7, 28, rfl, (fun _ h => absurd h List.not_mem_nil), rfl, by decide, (List.mem_of_getElem? (i := 7) rfl), by decide +kernel, fun q8 => ?_⟩
      refine wk_astore_n C (lv' := [some (.ref l0A), some (.int l1I), some (.ref q8)]) dL_bring_7 rfl (by decide) rfl ?_
      refine wk_ldc2 C (v := (-4000000000000000001)) (List.mem_of_getElem? (i := 1) rfl) dL_bring_8 ?_
      exact E _ _ _ _ _ _ hk4 hn5 dL_bring_11 ⟨(-4000000000000000001 : Int64), rfl, h, hWS7, (wkExt.tr hE hXS7)⟩
    · skip
      rcases wkIf hx with ⟨cE, h⟩ | ⟨-, hx⟩
      · subst cE
        refine ⟨[(0, 6, 7, 28)], [], 0, 6, 12, 30, rfl, (List.forall_mem_cons.mpr ⟨⟨by decide, "java/lang/IndexOutOfBoundsException", (List.mem_of_getElem? (i := 7) rfl), by decide +kernel⟩, (fun _ h => absurd h List.not_mem_nil)⟩), rfl, by decide, (List.mem_of_getElem? (i := 8) rfl), by decide +kernel, fun q9 => ?_⟩
        refine wk_astore_n C (lv' := [some (.ref l0A), some (.int l1I), some (.ref q9)]) dL_bring_12 rfl (by decide) rfl ?_
        refine wk_ldc2 C (v := (-4000000000000000002)) (List.mem_of_getElem? (i := 2) rfl) dL_bring_13 ?_
        exact E _ _ _ _ _ _ hk4 hn5 dL_bring_16 ⟨(-4000000000000000002 : Int64), rfl, h, hWS7, (wkExt.tr hE hXS7)⟩
      · exact hx.elim
  obtain ⟨v1, rfl, h, hWS2, hXS2⟩ := hp
  refine wk_i2l C dL_bring_5 rfl ?_
  exact E _ _ _ _ _ _ hk4 hn5 dL_bring_6 ⟨(Int32.toInt64 v1), rfl, h, hWS2, (wkExt.tr hE hXS2)⟩
def wvL_check : List Cond := .codeWith yL_check cL_check 4 (some .long) [(0, 7, 8, 28)] :: (([.constantLong RL 18 (-4000000000000000001), .methodLink RL 126 yX11_check, .instanceMethod yX11_check, .selects RX11 yX11_check yX11_check, .initialized RX11, .classLink RL 28 "java/lang/IndexOutOfBoundsException"] : List Cond) ++ (([]) ++ (wvX11_check)))
theorem hbL_check_X11_check : ∀ w ∈ wvX11_check, w ∈ wvL_check := fun w h => List.mem_cons_of_mem _ (List.mem_append_right _ (List.mem_append_right _ h))
theorem gdL_check : ∀ w ∈ wvL_check, wkGd w := wkGdC rfl (wkGdA (wkGdL (by decide +kernel)) (wkGdA (fun _ h => absurd h List.not_mem_nil) gdX11_check))
def rL_check (G : wkG) (F : Nat) (k n : Nat) (l0A : Nat) (l1I : Int32) (l2I : Int32) (S : wPS) (Φ : (Int64 → wPS → Prop)) : Prop :=
  ∃ k4 n5 : Nat, 0 + k4 ≤ k ∧ 0 + n5 ≤ n ∧ rX11_check F k4 n5 l0A l1I l2I S (fun v1 S2 => Φ (Int32.toInt64 v1) S2) (fun E6 S7 => if E6 = "java/lang/IndexOutOfBoundsException" then (Φ (-4000000000000000001 : Int64) S7) else False)
set_option maxHeartbeats 4000000 in
set_option maxRecDepth 100000 in
theorem tL_check {l : Launch} {g : wkG} {F : Nat} {k n : Nat}  {S : wPS} {l0A : Nat} {l1I : Int32} {l2I : Int32} {Φ : (Int64 → wPS → Prop)} (hst : wkSta g) (hcs : wkCast g) (hex : wkExA g) (hlt : l.stackTraces = false) (hW : wkWF S) (hl0A : wkIs S l0A 11) (h : rL_check g F k n l0A l1I l2I S Φ) : wkMet l g yL_check wvL_check 57 k n [.ref l0A, .int l1I, .int l2I] S (fun v' S'' => ∃ v : Int64, v' = some (.long v) ∧ Φ v S'' ∧ wkWF S'' ∧ wkExt S S'') := by
  refine wkMet_ofT (ret := (some .long)) (plainFor_of_name (by decide)) rfl (Nat.le_of_ble_eq_true rfl) (fun X hg C hR hT E => ?_)
  subst hg
  have hE : wkExt S S := wkExt.rf
  have hd : 57 ≤ 57 := Nat.le_refl _
  show wkGo l X 4 0 0 0 S [some (.ref l0A), some (.int l1I), some (.int l2I), none] []
  unfold rL_check at h
  refine wk_aload_n C dL_check_0 rfl rfl ?_
  refine wk_iload_n C dL_check_1 rfl rfl ?_
  refine wk_iload_n C dL_check_2 rfl rfl ?_
  obtain ⟨k4, n5, hk4, hn5, h⟩ := h
  refine wk_callVH C hT hcs hR (As := [.int l1I, .int l2I]) (cnt := 2) (tX11_check (l := l) hst hex hlt hW hl0A h) rfl (wkGoodV (List.mem_of_getElem? (i := 2) rfl) (List.mem_of_getElem? (i := 3) rfl) (List.mem_of_getElem? (i := 4) rfl) (List.mem_of_getElem? (i := 5) rfl) hbL_check_X11_check gdX11_check) (Nat.le_trans (by decide : 56 + 1 ≤ 57) hd) (by decide) hl0A.1 (fun cy => wAt_11 cy _ hl0A.2) rfl ⟨by decide, by decide, by decide +kernel⟩ rfl rfl (Nat.le_of_ble_eq_true rfl) hk4 hn5 dL_check_3 (fun E6 S7 hx => ?_) (fun v' S2 hp => ?_)
  · obtain ⟨hx, hWS7, hXS7⟩ := hx
    rcases wkIf hx with ⟨cE, h⟩ | ⟨-, hx⟩
    · subst cE
      refine ⟨[], [], 0, 7, 8, 28, rfl, (fun _ h => absurd h List.not_mem_nil), rfl, by decide, (List.mem_of_getElem? (i := 6) rfl), by decide +kernel, fun q8 => ?_⟩
      refine wk_astore_n C (lv' := [some (.ref l0A), some (.int l1I), some (.int l2I), some (.ref q8)]) dL_check_8 rfl (by decide) rfl ?_
      refine wk_ldc2 C (v := (-4000000000000000001)) (List.mem_of_getElem? (i := 1) rfl) dL_check_9 ?_
      exact E _ _ _ _ _ _ hk4 hn5 dL_check_12 ⟨(-4000000000000000001 : Int64), rfl, h, hWS7, (wkExt.tr hE hXS7)⟩
    · exact hx.elim
  obtain ⟨v1, rfl, h, hWS2, hXS2⟩ := hp
  refine wk_i2l C dL_check_6 rfl ?_
  exact E _ _ _ _ _ _ hk4 hn5 dL_check_7 ⟨(Int32.toInt64 v1), rfl, h, hWS2, (wkExt.tr hE hXS2)⟩
def wvL_claim : List Cond := .codeWith yL_claim cL_claim 5 (some .long) [(0, 8, 9, 28), (0, 8, 15, 20)] :: (([.constantLong RL 18 (-4000000000000000001), .constantLong RL 22 (-4000000000000000002), .methodLink RL 130 yX11_claim, .instanceMethod yX11_claim, .selects RX11 yX11_claim yX11_claim, .initialized RX11, .classLink RL 28 "java/lang/IndexOutOfBoundsException", .classLink RL 20 "java/lang/IllegalStateException"] : List Cond) ++ (([]) ++ (wvX11_claim)))
theorem hbL_claim_X11_claim : ∀ w ∈ wvX11_claim, w ∈ wvL_claim := fun w h => List.mem_cons_of_mem _ (List.mem_append_right _ (List.mem_append_right _ h))
theorem gdL_claim : ∀ w ∈ wvL_claim, wkGd w := wkGdC rfl (wkGdA (wkGdL (by decide +kernel)) (wkGdA (fun _ h => absurd h List.not_mem_nil) gdX11_claim))
def rL_claim (G : wkG) (F : Nat) (k n : Nat) (l0A : Nat) (l1I : Int32) (l2I : Int32) (l3I : Int32) (S : wPS) (Φ : (Int64 → wPS → Prop)) : Prop :=
  ∃ k4 n5 : Nat, 0 + k4 ≤ k ∧ 0 + n5 ≤ n ∧ rX11_claim F k4 n5 l0A l1I l2I l3I S (fun v1 S2 => Φ (Int32.toInt64 v1) S2) (fun E6 S7 => if E6 = "java/lang/IndexOutOfBoundsException" then (Φ (-4000000000000000001 : Int64) S7) else if E6 = "java/lang/IllegalStateException" then (Φ (-4000000000000000002 : Int64) S7) else False)
set_option maxHeartbeats 4000000 in
set_option maxRecDepth 100000 in
theorem tL_claim {l : Launch} {g : wkG} {F : Nat} {k n : Nat}  {S : wPS} {l0A : Nat} {l1I : Int32} {l2I : Int32} {l3I : Int32} {Φ : (Int64 → wPS → Prop)} (hst : wkSta g) (hcs : wkCast g) (hex : wkExA g) (hlt : l.stackTraces = false) (hW : wkWF S) (hl0A : wkIs S l0A 11) (h : rL_claim g F k n l0A l1I l2I l3I S Φ) : wkMet l g yL_claim wvL_claim 57 k n [.ref l0A, .int l1I, .int l2I, .int l3I] S (fun v' S'' => ∃ v : Int64, v' = some (.long v) ∧ Φ v S'' ∧ wkWF S'' ∧ wkExt S S'') := by
  refine wkMet_ofT (ret := (some .long)) (plainFor_of_name (by decide)) rfl (Nat.le_of_ble_eq_true rfl) (fun X hg C hR hT E => ?_)
  subst hg
  have hE : wkExt S S := wkExt.rf
  have hd : 57 ≤ 57 := Nat.le_refl _
  show wkGo l X 5 0 0 0 S [some (.ref l0A), some (.int l1I), some (.int l2I), some (.int l3I), none] []
  unfold rL_claim at h
  refine wk_aload_n C dL_claim_0 rfl rfl ?_
  refine wk_iload_n C dL_claim_1 rfl rfl ?_
  refine wk_iload_n C dL_claim_2 rfl rfl ?_
  refine wk_iload_n C dL_claim_3 rfl rfl ?_
  obtain ⟨k4, n5, hk4, hn5, h⟩ := h
  refine wk_callVH C hT hcs hR (As := [.int l1I, .int l2I, .int l3I]) (cnt := 3) (tX11_claim (l := l) hst hex hlt hW hl0A h) rfl (wkGoodV (List.mem_of_getElem? (i := 3) rfl) (List.mem_of_getElem? (i := 4) rfl) (List.mem_of_getElem? (i := 5) rfl) (List.mem_of_getElem? (i := 6) rfl) hbL_claim_X11_claim gdX11_claim) (Nat.le_trans (by decide : 56 + 1 ≤ 57) hd) (by decide) hl0A.1 (fun cy => wAt_11 cy _ hl0A.2) rfl ⟨by decide, by decide, by decide +kernel⟩ rfl rfl (Nat.le_of_ble_eq_true rfl) hk4 hn5 dL_claim_4 (fun E6 S7 hx => ?_) (fun v' S2 hp => ?_)
  · obtain ⟨hx, hWS7, hXS7⟩ := hx
    rcases wkIf hx with ⟨cE, h⟩ | ⟨-, hx⟩
    · subst cE
      refine ⟨[], [(0, 8, 15, 20)], 0, 8, 9, 28, rfl, (fun _ h => absurd h List.not_mem_nil), rfl, by decide, (List.mem_of_getElem? (i := 7) rfl), by decide +kernel, fun q8 => ?_⟩
      refine wk_astore C (lv' := [some (.ref l0A), some (.int l1I), some (.int l2I), some (.int l3I), some (.ref q8)]) dL_claim_9 (by decide) rfl ?_
      refine wk_ldc2 C (v := (-4000000000000000001)) (List.mem_of_getElem? (i := 1) rfl) dL_claim_11 ?_
      exact E _ _ _ _ _ _ hk4 hn5 dL_claim_14 ⟨(-4000000000000000001 : Int64), rfl, h, hWS7, (wkExt.tr hE hXS7)⟩
    · skip
      rcases wkIf hx with ⟨cE, h⟩ | ⟨-, hx⟩
      · subst cE
        refine ⟨[(0, 8, 9, 28)], [], 0, 8, 15, 20, rfl, (List.forall_mem_cons.mpr ⟨⟨by decide, "java/lang/IndexOutOfBoundsException", (List.mem_of_getElem? (i := 7) rfl), by decide +kernel⟩, (fun _ h => absurd h List.not_mem_nil)⟩), rfl, by decide, (List.mem_of_getElem? (i := 8) rfl), by decide +kernel, fun q9 => ?_⟩
        refine wk_astore C (lv' := [some (.ref l0A), some (.int l1I), some (.int l2I), some (.int l3I), some (.ref q9)]) dL_claim_15 (by decide) rfl ?_
        refine wk_ldc2 C (v := (-4000000000000000002)) (List.mem_of_getElem? (i := 2) rfl) dL_claim_17 ?_
        exact E _ _ _ _ _ _ hk4 hn5 dL_claim_20 ⟨(-4000000000000000002 : Int64), rfl, h, hWS7, (wkExt.tr hE hXS7)⟩
      · exact hx.elim
  obtain ⟨v1, rfl, h, hWS2, hXS2⟩ := hp
  refine wk_i2l C dL_claim_7 rfl ?_
  exact E _ _ _ _ _ _ hk4 hn5 dL_claim_8 ⟨(Int32.toInt64 v1), rfl, h, hWS2, (wkExt.tr hE hXS2)⟩
def wvL_settle : List Cond := .code yL_settle cL_settle 1 (some .long) :: (([.methodLink RL 134 yX11_settle, .instanceMethod yX11_settle, .selects RX11 yX11_settle yX11_settle, .initialized RX11] : List Cond) ++ (([]) ++ (wvX11_settle)))
theorem hbL_settle_X11_settle : ∀ w ∈ wvX11_settle, w ∈ wvL_settle := fun w h => List.mem_cons_of_mem _ (List.mem_append_right _ (List.mem_append_right _ h))
theorem gdL_settle : ∀ w ∈ wvL_settle, wkGd w := wkGdC rfl (wkGdA (wkGdL (by decide +kernel)) (wkGdA (fun _ h => absurd h List.not_mem_nil) gdX11_settle))
def rL_settle (G : wkG) (F : Nat) (k n : Nat) (l0A : Nat) (S : wPS) (Φ : (Int64 → wPS → Prop)) : Prop :=
  ∃ k4 n5 : Nat, 0 + k4 ≤ k ∧ 0 + n5 ≤ n ∧ rX11_settle F k4 n5 l0A S (fun v1 S2 => Φ (Int32.toInt64 v1) S2) (fun E6 S7 => False)
set_option maxHeartbeats 4000000 in
set_option maxRecDepth 100000 in
theorem tL_settle {l : Launch} {g : wkG} {F : Nat} {k n : Nat}  {S : wPS} {l0A : Nat} {Φ : (Int64 → wPS → Prop)} (hst : wkSta g) (hex : wkExA g) (hlt : l.stackTraces = false) (hW : wkWF S) (hl0A : wkIs S l0A 11) (h : rL_settle g F k n l0A S Φ) : wkMet l g yL_settle wvL_settle 57 k n [.ref l0A] S (fun v' S'' => ∃ v : Int64, v' = some (.long v) ∧ Φ v S'' ∧ wkWF S'' ∧ wkExt S S'') := by
  refine wkMet_of (ret := (some .long)) (by decide) rfl (Nat.le_of_ble_eq_true rfl) (fun X hg C hR E => ?_)
  subst hg
  have hE : wkExt S S := wkExt.rf
  have hd : 57 ≤ 57 := Nat.le_refl _
  show wkGo l X 1 0 0 0 S [some (.ref l0A)] []
  unfold rL_settle at h
  refine wk_aload_n C dL_settle_0 rfl rfl ?_
  obtain ⟨k4, n5, hk4, hn5, h⟩ := h
  refine wk_callVX C hR wkEndX_no (As := []) (cnt := 0) (tX11_settle (l := l) hst hex hlt hW hl0A h) rfl (wkGoodV (List.mem_of_getElem? (i := 1) rfl) (List.mem_of_getElem? (i := 2) rfl) (List.mem_of_getElem? (i := 3) rfl) (List.mem_of_getElem? (i := 4) rfl) hbL_settle_X11_settle gdX11_settle) (Nat.le_trans (by decide : 56 + 1 ≤ 57) hd) (by decide) hl0A.1 (fun cy => wAt_11 cy _ hl0A.2) rfl ⟨by decide, by decide, by decide +kernel⟩ rfl rfl (Nat.le_of_ble_eq_true rfl) hk4 hn5 dL_settle_1 (fun E S' q => q.1) (fun v' S2 hp => ?_)
  obtain ⟨v1, rfl, h, hWS2, hXS2⟩ := hp
  refine wk_i2l C dL_settle_4 rfl ?_
  exact E _ _ _ _ _ _ hk4 hn5 dL_settle_5 ⟨(Int32.toInt64 v1), rfl, h, hWS2, (wkExt.tr hE hXS2)⟩
def wvL_checksum : List Cond := .code yL_checksum cL_checksum 1 (some .long) :: (([.methodLink RL 137 yX11_checksum, .instanceMethod yX11_checksum, .selects RX11 yX11_checksum yX11_checksum, .initialized RX11] : List Cond) ++ (([]) ++ (wvX11_checksum)))
theorem hbL_checksum_X11_checksum : ∀ w ∈ wvX11_checksum, w ∈ wvL_checksum := fun w h => List.mem_cons_of_mem _ (List.mem_append_right _ (List.mem_append_right _ h))
theorem gdL_checksum : ∀ w ∈ wvL_checksum, wkGd w := wkGdC rfl (wkGdA (wkGdL (by decide +kernel)) (wkGdA (fun _ h => absurd h List.not_mem_nil) gdX11_checksum))
def rL_checksum (G : wkG) (F : Nat) (k n : Nat) (l0A : Nat) (S : wPS) (Φ : (Int64 → wPS → Prop)) : Prop :=
  ∃ k4 n5 : Nat, 0 + k4 ≤ k ∧ 0 + n5 ≤ n ∧ rX11_checksum F k4 n5 l0A S (fun v1 S2 => Φ v1 S2) (fun E6 S7 => False)
set_option maxHeartbeats 4000000 in
set_option maxRecDepth 100000 in
theorem tL_checksum {l : Launch} {g : wkG} {F : Nat} {k n : Nat}  {S : wPS} {l0A : Nat} {Φ : (Int64 → wPS → Prop)} (hst : wkSta g) (hex : wkExA g) (hlt : l.stackTraces = false) (hW : wkWF S) (hl0A : wkIs S l0A 11) (h : rL_checksum g F k n l0A S Φ) : wkMet l g yL_checksum wvL_checksum 57 k n [.ref l0A] S (fun v' S'' => ∃ v : Int64, v' = some (.long v) ∧ Φ v S'' ∧ wkWF S'' ∧ wkExt S S'') := by
  refine wkMet_of (ret := (some .long)) (by decide) rfl (Nat.le_of_ble_eq_true rfl) (fun X hg C hR E => ?_)
  subst hg
  have hE : wkExt S S := wkExt.rf
  have hd : 57 ≤ 57 := Nat.le_refl _
  show wkGo l X 1 0 0 0 S [some (.ref l0A)] []
  unfold rL_checksum at h
  refine wk_aload_n C dL_checksum_0 rfl rfl ?_
  obtain ⟨k4, n5, hk4, hn5, h⟩ := h
  refine wk_callVX C hR wkEndX_no (As := []) (cnt := 0) (tX11_checksum (l := l) hst hex hlt hW hl0A h) rfl (wkGoodV (List.mem_of_getElem? (i := 1) rfl) (List.mem_of_getElem? (i := 2) rfl) (List.mem_of_getElem? (i := 3) rfl) (List.mem_of_getElem? (i := 4) rfl) hbL_checksum_X11_checksum gdX11_checksum) (Nat.le_trans (by decide : 56 + 1 ≤ 57) hd) (by decide) hl0A.1 (fun cy => wAt_11 cy _ hl0A.2) rfl ⟨by decide, by decide, by decide +kernel⟩ rfl rfl (Nat.le_of_ble_eq_true rfl) hk4 hn5 dL_checksum_1 (fun E S' q => q.1) (fun v' S2 hp => ?_)
  obtain ⟨v1, rfl, h, hWS2, hXS2⟩ := hp
  exact E _ _ _ _ _ _ hk4 hn5 dL_checksum_4 ⟨v1, rfl, h, hWS2, (wkExt.tr hE hXS2)⟩
