def wvJ0_indexOf_0f7a4 : List Cond := .code yJ0_indexOf_0f7a4 cJ0_indexOf_0f7a4 2 (some .int) :: (([.methodLink RJ0 633 yJ0_indexOf_7cf53, .instanceMethod yJ0_indexOf_7cf53, .selects RJ0 yJ0_indexOf_7cf53 yJ0_indexOf_7cf53, .initialized RJ0] : List Cond) ++ (([]) ++ (wvJ0_indexOf_7cf53)))
theorem hbJ0_indexOf_0f7a4_J0_indexOf_7cf53 : ∀ w ∈ wvJ0_indexOf_7cf53, w ∈ wvJ0_indexOf_0f7a4 := fun w h => List.mem_cons_of_mem _ (List.mem_append_right _ (List.mem_append_right _ h))
theorem gdJ0_indexOf_0f7a4 : ∀ w ∈ wvJ0_indexOf_0f7a4, wkGd w := wkGdC rfl (wkGdA (wkGdL (by decide +kernel)) (wkGdA (fun _ h => absurd h List.not_mem_nil) gdJ0_indexOf_7cf53))
def rJ0_indexOf_0f7a4 (F : Nat) (l1I : Int32) (S : wPS) (Φ : (Int32 → wPS → Prop)) : Prop :=
  rJ0_indexOf_7cf53 F l1I (0 : Int32) S fun v1 S2 => Φ v1 S2
set_option maxHeartbeats 4000000 in
set_option maxRecDepth 100000 in
theorem tJ0_indexOf_0f7a4 {l : Launch} {g : wkG} {F : Nat}  {S : wPS} {l0A : Nat} {l1I : Int32} {Φ : (Int32 → wPS → Prop)} (hstr : wkStr g) (hW : wkWF S) (hl0A : l0A = g.1 5) (h : rJ0_indexOf_0f7a4 F l1I S Φ) : wkMet l g yJ0_indexOf_0f7a4 wvJ0_indexOf_0f7a4 3 0 0 [.ref l0A, .int l1I] S (fun v' S'' => ∃ v : Int32, v' = some (.int v) ∧ Φ v S'' ∧ wkWF S'' ∧ wkExt S S'') := by
  refine wkMet_of (ret := (some .int)) (by decide) rfl (Nat.le_of_ble_eq_true rfl) (fun X hg C hR E => ?_)
  subst hg
  have hE : wkExt S S := wkExt.rf
  have hd : 3 ≤ 3 := Nat.le_refl _
  show wkGo l X 2 0 0 0 S [some (.ref l0A), some (.int l1I)] []
  unfold rJ0_indexOf_0f7a4 at h
  refine wk_aload_n C dJ0_indexOf_0f7a4_0 rfl rfl ?_
  refine wk_iload_n C dJ0_indexOf_0f7a4_1 rfl rfl ?_
  refine wk_iconst C (v := 0) dJ0_indexOf_0f7a4_2 (by decide) ?_
  refine wk_callVS C hstr hR (As := [.int l1I, .int (0 : Int32)]) (cnt := 2) (tJ0_indexOf_7cf53 (l := l) hstr hW hl0A h) rfl (wkGoodV (List.mem_of_getElem? (i := 1) rfl) (List.mem_of_getElem? (i := 2) rfl) (List.mem_of_getElem? (i := 3) rfl) (List.mem_of_getElem? (i := 4) rfl) hbJ0_indexOf_0f7a4_J0_indexOf_7cf53 gdJ0_indexOf_7cf53) (Nat.le_trans (by decide : 2 + 1 ≤ 3) hd) (by decide) hl0A rfl ⟨by decide, by decide, by decide +kernel⟩ rfl rfl (Nat.le_of_ble_eq_true rfl) (Nat.le_refl 0) (Nat.le_refl 0) dJ0_indexOf_0f7a4_3 (fun v' S2 hp => ?_)
  obtain ⟨v1, rfl, h, hWS2, hXS2⟩ := hp
  exact E _ _ _ _ _ _ (Nat.le_refl 0) (Nat.le_refl 0) dJ0_indexOf_0f7a4_6 ⟨v1, rfl, h, hWS2, (wkExt.tr hE hXS2)⟩
def wvX1_solve : List Cond := .code yX1_solve cX1_solve 5 none :: (([.methodLink RX1 36 yX3_tell, .instanceMethod yX3_tell, .selects RX3 yX3_tell yX3_tell, .initialized RX3, .fieldLink RX1 28 "Witnessworks$Entry" "row" "LWitnessworks$Row;", .methodLink RX1 40 yX1_goThrough, .instanceMethod yX1_goThrough, .selects RX1 yX1_goThrough yX1_goThrough, .initialized RX1, .methodLink RX1 24 yX1_isFulfilled, .instanceMethod yX1_isFulfilled, .selects RX1 yX1_isFulfilled yX1_isFulfilled, .methodLink RX1 32 yX1_writeTruths, .static yX1_writeTruths, .fieldLink RX1 18 "Witnessworks$Entry" "size" "I"] : List Cond) ++ ((wsX30) ++ (wvX3_tell ++ (wvX1_goThrough ++ (wvX1_isFulfilled ++ (wvX1_writeTruths))))))
theorem huX1_solve_3 : ∀ w ∈ u_ws RX3 TX3 17, w ∈ wvX1_solve := fun w h => List.mem_cons_of_mem _ (List.mem_append_right _ (List.mem_append_left _ h))
theorem hbX1_solve_X3_tell : ∀ w ∈ wvX3_tell, w ∈ wvX1_solve := fun w h => List.mem_cons_of_mem _ (List.mem_append_right _ (List.mem_append_right _ (List.mem_append_left _ h)))
theorem hbX1_solve_X1_goThrough : ∀ w ∈ wvX1_goThrough, w ∈ wvX1_solve := fun w h => List.mem_cons_of_mem _ (List.mem_append_right _ (List.mem_append_right _ (List.mem_append_right _ (List.mem_append_left _ h))))
theorem hbX1_solve_X1_isFulfilled : ∀ w ∈ wvX1_isFulfilled, w ∈ wvX1_solve := fun w h => List.mem_cons_of_mem _ (List.mem_append_right _ (List.mem_append_right _ (List.mem_append_right _ (List.mem_append_right _ (List.mem_append_left _ h)))))
theorem hbX1_solve_X1_writeTruths : ∀ w ∈ wvX1_writeTruths, w ∈ wvX1_solve := fun w h => List.mem_cons_of_mem _ (List.mem_append_right _ (List.mem_append_right _ (List.mem_append_right _ (List.mem_append_right _ (List.mem_append_right _ h)))))
theorem gdX1_solve : ∀ w ∈ wvX1_solve, wkGd w := wkGdC rfl (wkGdA (wkGdL (by decide +kernel)) (wkGdA gdX3 (wkGdA gdX3_tell (wkGdA gdX1_goThrough (wkGdA gdX1_isFulfilled gdX1_writeTruths)))))
def rX1_solve_b0 (F : Nat) (k n : Nat) (rec : Nat → Nat → Nat → Nat → Nat → Int32 → Int32 → Int32 → wPS → (Unit → wPS → Prop) → Prop) (c s : Nat) (l0A : Nat) (l1A : Nat) (l2I : Int32) (l3I : Int32) (l4I : Int32) (S : wPS) (Φ : (Unit → wPS → Prop)) : Prop :=
  if ((1 : Int32) <<< (l2I &&& 31)) ≤ l4I then (if l3I ≤ 0 then (rX3_tell F l1A (0 : Int32) l3I S fun v3 S4 => if l3I = 0 then (∃ k12 n13 : Nat, c + k12 ≤ k ∧ s + n13 ≤ n ∧ rX1_goThrough F k12 n13 l0A l1A (wkAd (gEntry_row S4 l1A)) S4 fun v9 S10 => Φ () S10) else (Φ () S4)) else (rX3_tell F l1A (1 : Int32) l3I S fun v14 S15 => if l3I = 0 then (∃ k23 n24 : Nat, c + k23 ≤ k ∧ s + n24 ≤ n ∧ rX1_goThrough F k23 n24 l0A l1A (wkAd (gEntry_row S15 l1A)) S15 fun v20 S21 => Φ () S21) else (Φ () S15))) else (rX1_isFulfilled F l0A l1A l4I S fun v25 S26 => if v25 = 0 then (wkLt (l4I + (1 : Int32)) fun x31 => rec 0 c s l0A l1A l2I l3I x31 S26 Φ) else (if l3I = 0 then (∃ k38 n39 : Nat, c + k38 ≤ k ∧ s + n39 ≤ n ∧ rX1_writeTruths F k38 n39 l4I l2I (wkAd (gEntry_row S26 l1A)) S26 fun v35 S36 => wkLt (l3I + (1 : Int32)) fun x40 => wkLt (l4I + (1 : Int32)) fun x41 => rec 0 (c + k38) (s + n39) l0A l1A l2I x40 x41 S36 Φ) else (wkLt (l3I + (1 : Int32)) fun x33 => wkLt (l4I + (1 : Int32)) fun x34 => rec 0 c s l0A l1A l2I x33 x34 S26 Φ)))
def rX1_solve_go (F : Nat) (k n : Nat) : Nat → Nat → Nat → Nat → Nat → Nat → Int32 → Int32 → Int32 → wPS → (Unit → wPS → Prop) → Prop
  | 0, _, _, _, _, _, _, _, _, _, _ => False
  | k' + 1, lab, c, s, l0A, l1A, l2I, l3I, l4I, S, Φ => if lab = 0 then rX1_solve_b0 F k n (rX1_solve_go F k n k') c s l0A l1A l2I l3I l4I S Φ else False
def rX1_solve_s (F : Nat) (k n : Nat) (rec : Nat → Nat → Nat → Nat → Nat → Int32 → Int32 → Int32 → wPS → (Unit → wPS → Prop) → Prop) (l0A : Nat) (l1A : Nat) (S : wPS) (Φ : (Unit → wPS → Prop)) : Prop :=
  wkLt ((gEntry_size S l1A)) fun x42 => rec 0 0 0 l0A l1A x42 (0 : Int32) (0 : Int32) S Φ
def rX1_solve (F : Nat) (k n : Nat) (l0A : Nat) (l1A : Nat) (S : wPS) (Φ : (Unit → wPS → Prop)) : Prop := rX1_solve_s F k n (rX1_solve_go F k n F) l0A l1A S Φ
set_option maxHeartbeats 4000000 in
set_option maxRecDepth 100000 in
theorem tX1_solve_go {k n : Nat} {l : Launch} {X : wkX} {d F : Nat} {S0 : wPS} {Φ : (Unit → wPS → Prop)} (C : wkC X cX1_solve RX1 5 wvX1_solve) (hR : wkRm X d k n) (hd : 4 ≤ d) (E : wkEnd l X cX1_solve 5 none k n (fun v' S'' => ∃ v : Unit, v' = none ∧ Φ v S'' ∧ wkWF S'' ∧ wkExt S0 S'')) : ∀ k' : Nat, (∀ (c s : Nat), c ≤ k → s ≤ n → ∀ (l0A : Nat) (l1A : Nat) (l2I : Int32) (l3I : Int32) (l4I : Int32) (S : wPS), wkWF S → wkExt S0 S → wkIs S l0A 1 → wkIs S l1A 3 → rX1_solve_go F k n k' 0 c s l0A l1A l2I l3I l4I S Φ → wkGo l X 5 c s 10 S [some (.ref l0A), some (.ref l1A), some (.int l2I), some (.int l3I), some (.int l4I)] []) := by
  intro k'
  induction k' with
  | zero => exact fun c s hc hs l0A l1A l2I l3I l4I S hW hE hl0A hl1A h => h.elim
  | succ k' ih =>
    · intro c s hc hs l0A l1A l2I l3I l4I S hW hE hl0A hl1A h
      have h : rX1_solve_b0 F k n (rX1_solve_go F k n k') c s l0A l1A l2I l3I l4I S Φ := by
        rw [rX1_solve_go, if_pos (rfl : (0 : Nat) = 0)] at h
        exact h
      unfold rX1_solve_b0 at h
      refine wk_iload C dX1_solve_10 rfl ?_
      refine wk_iconst C (v := 1) dX1_solve_12 (by decide) ?_
      refine wk_iload_n C dX1_solve_13 rfl rfl ?_
      refine wk_ishl C dX1_solve_14 rfl ?_
      refine wk_icmp_ge C (tgt := 51) dX1_solve_15 (by decide) (fun c1 => ?_) (fun c1 => ?_)
      · rw [if_pos c1] at h
        refine wk_aload_n C dX1_solve_51 rfl rfl ?_
        refine wk_iload_n C dX1_solve_52 rfl rfl ?_
        refine wk_if_le C (tgt := 60) dX1_solve_53 (by decide) (fun c2 => ?_) (fun c2 => ?_)
        · rw [if_pos c2] at h
          refine wk_iconst C (v := 0) dX1_solve_60 (by decide) ?_
          refine wk_iload_n C dX1_solve_61 rfl rfl ?_
          refine wk_callV C hR (As := [.int (0 : Int32), .int l3I]) (cnt := 2) (tX3_tell (l := l) hW hl1A h) rfl (wkGoodV (List.mem_of_getElem? (i := 1) rfl) (List.mem_of_getElem? (i := 2) rfl) (List.mem_of_getElem? (i := 3) rfl) (List.mem_of_getElem? (i := 4) rfl) hbX1_solve_X3_tell gdX3_tell) (Nat.le_trans (by decide : 0 + 1 ≤ 4) hd) (by decide) hl1A.1 (fun cy => wAt_3 cy _ hl1A.2) rfl ⟨by decide, by decide, by decide +kernel⟩ rfl rfl (Nat.le_of_ble_eq_true rfl) hc hs dX1_solve_62 (fun v' S4 hp => ?_)
          obtain ⟨v3, rfl, h, hWS4, hXS4⟩ := hp
          refine wk_iload_n C dX1_solve_65 rfl rfl ?_
          refine wk_if_ne C (tgt := 78) dX1_solve_66 (by decide) (fun c8 => ?_) (fun c8 => ?_)
          · rw [if_neg c8] at h
            exact E _ _ _ _ _ hc hs dX1_solve_78 ⟨(), rfl, h, hWS4, (wkExt.tr hE hXS4)⟩
          · rw [if_pos c8] at h
            refine wk_aload_n C dX1_solve_69 rfl rfl ?_
            refine wk_aload_n C dX1_solve_70 rfl rfl ?_
            refine wk_aload_n C dX1_solve_71 rfl rfl ?_
            refine wk_get C huX1_solve_3 (hXS4 _ _ hl1A).1 (fun cy => wAt_3 cy _ (hXS4 _ _ hl1A).2) rfl 13 (by decide) (List.mem_of_getElem? (i := 5) rfl) rfl (congrArg some (congrArg va_rf (wf_Entry_row hWS4 (hXS4 _ _ hl1A)).1)) dX1_solve_72 ?_
            obtain ⟨k12, n13, hk12, hn13, h⟩ := h
            refine wk_callV C hR (As := [.ref l1A, .ref (wkAd (gEntry_row S4 l1A))]) (cnt := 2) (tX1_goThrough (l := l) hWS4 (hXS4 _ _ hl0A) (hXS4 _ _ hl1A) (wf_Entry_row hWS4 (hXS4 _ _ hl1A)).2 h) rfl (wkGoodV (List.mem_of_getElem? (i := 6) rfl) (List.mem_of_getElem? (i := 7) rfl) (List.mem_of_getElem? (i := 8) rfl) (List.mem_of_getElem? (i := 9) rfl) hbX1_solve_X1_goThrough gdX1_goThrough) (Nat.le_trans (by decide : 3 + 1 ≤ 4) hd) (by decide) (hXS4 _ _ hl0A).1 (fun cy => wAt_1 cy _ (hXS4 _ _ hl0A).2) rfl ⟨by decide, by decide, by decide +kernel⟩ rfl rfl (Nat.le_of_ble_eq_true rfl) hk12 hn13 dX1_solve_75 (fun v' S10 hp => ?_)
            obtain ⟨v9, rfl, h, hWS10, hXS10⟩ := hp
            exact E _ _ _ _ _ hk12 hn13 dX1_solve_78 ⟨(), rfl, h, hWS10, (wkExt.tr (wkExt.tr hE hXS4) hXS10)⟩
        · rw [if_neg c2] at h
          refine wk_iconst C (v := 1) dX1_solve_56 (by decide) ?_
          refine wk_goto C (tgt := 61) dX1_solve_57 (by decide) ?_
          refine wk_iload_n C dX1_solve_61 rfl rfl ?_
          refine wk_callV C hR (As := [.int (1 : Int32), .int l3I]) (cnt := 2) (tX3_tell (l := l) hW hl1A h) rfl (wkGoodV (List.mem_of_getElem? (i := 1) rfl) (List.mem_of_getElem? (i := 2) rfl) (List.mem_of_getElem? (i := 3) rfl) (List.mem_of_getElem? (i := 4) rfl) hbX1_solve_X3_tell gdX3_tell) (Nat.le_trans (by decide : 0 + 1 ≤ 4) hd) (by decide) hl1A.1 (fun cy => wAt_3 cy _ hl1A.2) rfl ⟨by decide, by decide, by decide +kernel⟩ rfl rfl (Nat.le_of_ble_eq_true rfl) hc hs dX1_solve_62 (fun v' S15 hp => ?_)
          obtain ⟨v14, rfl, h, hWS15, hXS15⟩ := hp
          refine wk_iload_n C dX1_solve_65 rfl rfl ?_
          refine wk_if_ne C (tgt := 78) dX1_solve_66 (by decide) (fun c19 => ?_) (fun c19 => ?_)
          · rw [if_neg c19] at h
            exact E _ _ _ _ _ hc hs dX1_solve_78 ⟨(), rfl, h, hWS15, (wkExt.tr hE hXS15)⟩
          · rw [if_pos c19] at h
            refine wk_aload_n C dX1_solve_69 rfl rfl ?_
            refine wk_aload_n C dX1_solve_70 rfl rfl ?_
            refine wk_aload_n C dX1_solve_71 rfl rfl ?_
            refine wk_get C huX1_solve_3 (hXS15 _ _ hl1A).1 (fun cy => wAt_3 cy _ (hXS15 _ _ hl1A).2) rfl 13 (by decide) (List.mem_of_getElem? (i := 5) rfl) rfl (congrArg some (congrArg va_rf (wf_Entry_row hWS15 (hXS15 _ _ hl1A)).1)) dX1_solve_72 ?_
            obtain ⟨k23, n24, hk23, hn24, h⟩ := h
            refine wk_callV C hR (As := [.ref l1A, .ref (wkAd (gEntry_row S15 l1A))]) (cnt := 2) (tX1_goThrough (l := l) hWS15 (hXS15 _ _ hl0A) (hXS15 _ _ hl1A) (wf_Entry_row hWS15 (hXS15 _ _ hl1A)).2 h) rfl (wkGoodV (List.mem_of_getElem? (i := 6) rfl) (List.mem_of_getElem? (i := 7) rfl) (List.mem_of_getElem? (i := 8) rfl) (List.mem_of_getElem? (i := 9) rfl) hbX1_solve_X1_goThrough gdX1_goThrough) (Nat.le_trans (by decide : 3 + 1 ≤ 4) hd) (by decide) (hXS15 _ _ hl0A).1 (fun cy => wAt_1 cy _ (hXS15 _ _ hl0A).2) rfl ⟨by decide, by decide, by decide +kernel⟩ rfl rfl (Nat.le_of_ble_eq_true rfl) hk23 hn24 dX1_solve_75 (fun v' S21 hp => ?_)
            obtain ⟨v20, rfl, h, hWS21, hXS21⟩ := hp
            exact E _ _ _ _ _ hk23 hn24 dX1_solve_78 ⟨(), rfl, h, hWS21, (wkExt.tr (wkExt.tr hE hXS15) hXS21)⟩
      · rw [if_neg c1] at h
        refine wk_aload_n C dX1_solve_18 rfl rfl ?_
        refine wk_aload_n C dX1_solve_19 rfl rfl ?_
        refine wk_iload C dX1_solve_20 rfl ?_
        refine wk_callV C hR (As := [.ref l1A, .int l4I]) (cnt := 2) (tX1_isFulfilled (l := l) hW hl0A hl1A h) rfl (wkGoodV (List.mem_of_getElem? (i := 10) rfl) (List.mem_of_getElem? (i := 11) rfl) (List.mem_of_getElem? (i := 12) rfl) (List.mem_of_getElem? (i := 9) rfl) hbX1_solve_X1_isFulfilled gdX1_isFulfilled) (Nat.le_trans (by decide : 3 + 1 ≤ 4) hd) (by decide) hl0A.1 (fun cy => wAt_1 cy _ hl0A.2) rfl ⟨by decide, by decide, by decide +kernel⟩ rfl rfl (Nat.le_of_ble_eq_true rfl) hc hs dX1_solve_22 (fun v' S26 hp => ?_)
        obtain ⟨v25, rfl, h, hWS26, hXS26⟩ := hp
        refine wk_if_eq C (tgt := 45) dX1_solve_25 (by decide) (fun c30 => ?_) (fun c30 => ?_)
        · rw [if_pos c30] at h
          obtain ⟨x31, ex31, h⟩ := wkLt_some h
          refine wk_iinc C (lv' := [some (.ref l0A), some (.ref l1A), some (.int l2I), some (.int l3I), some (.int x31)]) dX1_solve_45 rfl (by rw [ex31]; rfl) (by decide) rfl ?_
          refine wk_goto C (tgt := 10) dX1_solve_48 (by decide) ?_
          exact wk_forget (lv' := [some (.ref l0A), some (.ref l1A), some (.int l2I), some (.int l3I), some (.int x31)]) (wkLs.le ⟨rfl, rfl, rfl, rfl, rfl, trivial⟩) (ih _ _ hc hs _ _ _ _ _ _ hWS26 (wkExt.tr hE hXS26) (hXS26 _ _ hl0A) (hXS26 _ _ hl1A) h)
        · rw [if_neg c30] at h
          refine wk_iload_n C dX1_solve_28 rfl rfl ?_
          refine wk_if_ne C (tgt := 42) dX1_solve_29 (by decide) (fun c32 => ?_) (fun c32 => ?_)
          · rw [if_neg c32] at h
            obtain ⟨x33, ex33, h⟩ := wkLt_some h
            refine wk_iinc C (lv' := [some (.ref l0A), some (.ref l1A), some (.int l2I), some (.int x33), some (.int l4I)]) dX1_solve_42 rfl (by rw [ex33]; rfl) (by decide) rfl ?_
            obtain ⟨x34, ex34, h⟩ := wkLt_some h
            refine wk_iinc C (lv' := [some (.ref l0A), some (.ref l1A), some (.int l2I), some (.int x33), some (.int x34)]) dX1_solve_45 rfl (by rw [ex34]; rfl) (by decide) rfl ?_
            refine wk_goto C (tgt := 10) dX1_solve_48 (by decide) ?_
            exact wk_forget (lv' := [some (.ref l0A), some (.ref l1A), some (.int l2I), some (.int x33), some (.int x34)]) (wkLs.le ⟨rfl, rfl, rfl, rfl, rfl, trivial⟩) (ih _ _ hc hs _ _ _ _ _ _ hWS26 (wkExt.tr hE hXS26) (hXS26 _ _ hl0A) (hXS26 _ _ hl1A) h)
          · rw [if_pos c32] at h
            refine wk_iload C dX1_solve_32 rfl ?_
            refine wk_iload_n C dX1_solve_34 rfl rfl ?_
            refine wk_aload_n C dX1_solve_35 rfl rfl ?_
            refine wk_get C huX1_solve_3 (hXS26 _ _ hl1A).1 (fun cy => wAt_3 cy _ (hXS26 _ _ hl1A).2) rfl 13 (by decide) (List.mem_of_getElem? (i := 5) rfl) rfl (congrArg some (congrArg va_rf (wf_Entry_row hWS26 (hXS26 _ _ hl1A)).1)) dX1_solve_36 ?_
            obtain ⟨k38, n39, hk38, hn39, h⟩ := h
            refine wk_callW C hR (As := [.int l4I, .int l2I, .ref (wkAd (gEntry_row S26 l1A))]) (cnt := 3) (tX1_writeTruths (l := l) hWS26 (wf_Entry_row hWS26 (hXS26 _ _ hl1A)).2 h) rfl (wkGoodW (List.mem_of_getElem? (i := 13) rfl) (List.mem_of_getElem? (i := 14) rfl) (List.mem_of_getElem? (i := 9) rfl) hbX1_solve_X1_writeTruths gdX1_writeTruths) (Nat.le_trans (by decide : 3 + 1 ≤ 4) hd) (by decide) ⟨by decide, by decide, by decide +kernel⟩ rfl rfl (Nat.le_of_ble_eq_true rfl) hk38 hn39 dX1_solve_39 (fun v' S36 hp => ?_)
            obtain ⟨v35, rfl, h, hWS36, hXS36⟩ := hp
            obtain ⟨x40, ex40, h⟩ := wkLt_some h
            refine wk_iinc C (lv' := [some (.ref l0A), some (.ref l1A), some (.int l2I), some (.int x40), some (.int l4I)]) dX1_solve_42 rfl (by rw [ex40]; rfl) (by decide) rfl ?_
            obtain ⟨x41, ex41, h⟩ := wkLt_some h
            refine wk_iinc C (lv' := [some (.ref l0A), some (.ref l1A), some (.int l2I), some (.int x40), some (.int x41)]) dX1_solve_45 rfl (by rw [ex41]; rfl) (by decide) rfl ?_
            refine wk_goto C (tgt := 10) dX1_solve_48 (by decide) ?_
            exact wk_forget (lv' := [some (.ref l0A), some (.ref l1A), some (.int l2I), some (.int x40), some (.int x41)]) (wkLs.le ⟨rfl, rfl, rfl, rfl, rfl, trivial⟩) (ih _ _ hk38 hn39 _ _ _ _ _ _ hWS36 (wkExt.tr (wkExt.tr hE hXS26) hXS36) (hXS36 _ _ (hXS26 _ _ hl0A)) (hXS36 _ _ (hXS26 _ _ hl1A)) h)
set_option maxHeartbeats 4000000 in
set_option maxRecDepth 100000 in
theorem tX1_solve {l : Launch} {g : wkG} {F : Nat} {k n : Nat}  {S : wPS} {l0A : Nat} {l1A : Nat} {Φ : (Unit → wPS → Prop)} (hW : wkWF S) (hl0A : wkIs S l0A 1) (hl1A : wkIs S l1A 3) (h : rX1_solve F k n l0A l1A S Φ) : wkMet l g yX1_solve wvX1_solve 4 k n [.ref l0A, .ref l1A] S (fun v' S'' => ∃ v : Unit, v' = none ∧ Φ v S'' ∧ wkWF S'' ∧ wkExt S S'') := by
  refine wkMet_of (ret := none) (by decide) rfl (Nat.le_of_ble_eq_true rfl) (fun X hg C hR E => ?_)
  subst hg
  have hE : wkExt S S := wkExt.rf
  have hd : 4 ≤ 4 := Nat.le_refl _
  show wkGo l X 5 0 0 0 S [some (.ref l0A), some (.ref l1A), none, none, none] []
  have ih := tX1_solve_go (F := F) C hR hd E F
  have h : rX1_solve_s F k n (rX1_solve_go F k n F) l0A l1A S Φ := h
  unfold rX1_solve_s at h
  refine wk_aload_n C dX1_solve_0 rfl rfl ?_
  refine wk_get C (v := .int (gEntry_size S l1A)) huX1_solve_3 hl1A.1 (fun cy => wAt_3 cy _ hl1A.2) rfl 1 (by decide) (List.mem_of_getElem? (i := 15) rfl) rfl rfl dX1_solve_1 ?_
  obtain ⟨x42, ex42, h⟩ := wkLt_some h
  refine wk_topi ex42 ?_
  refine wk_istore_n C (lv' := [some (.ref l0A), some (.ref l1A), some (.int x42), none, none]) dX1_solve_4 rfl (by decide) rfl ?_
  refine wk_iconst C (v := 0) dX1_solve_5 (by decide) ?_
  refine wk_istore_n C (lv' := [some (.ref l0A), some (.ref l1A), some (.int x42), some (.int (0 : Int32)), none]) dX1_solve_6 rfl (by decide) rfl ?_
  refine wk_iconst C (v := 0) dX1_solve_7 (by decide) ?_
  refine wk_istore C (lv' := [some (.ref l0A), some (.ref l1A), some (.int x42), some (.int (0 : Int32)), some (.int (0 : Int32))]) dX1_solve_8 (by decide) rfl ?_
  exact wk_forget (lv' := [some (.ref l0A), some (.ref l1A), some (.int x42), some (.int (0 : Int32)), some (.int (0 : Int32))]) (wkLs.le ⟨rfl, rfl, rfl, rfl, rfl, trivial⟩) (ih _ _ (Nat.zero_le _) (Nat.zero_le _) _ _ _ _ _ _ hW hE hl0A hl1A h)
def wvX2_solve : List Cond := .code yX2_solve cX2_solve 4 none :: (([.fieldLink RX2 46 "Witnessworks$Drawings" "places" "I", .fieldLink RX2 62 "Witnessworks$Drawings" "nodeCount" "I", .methodLink RX2 65 yX2_countWalks, .instanceMethod yX2_countWalks, .selects RX2 yX2_countWalks yX2_countWalks, .initialized RX2, .methodLink RX2 69 yX3_tell, .instanceMethod yX3_tell, .selects RX3 yX3_tell yX3_tell, .initialized RX3, .fieldLink RX2 50 "Witnessworks$Entry" "row" "LWitnessworks$Row;", .fieldLink RX2 22 "Witnessworks$Drawings" "ring" "[I", .methodLink RX2 56 yX9_add, .instanceMethod yX9_add, .selects RX9 yX9_add yX9_add, .initialized RX9, .methodLink RX2 34 yX2_countedItems, .static yX2_countedItems, .methodLink RX2 38 yX2_loadEdges, .instanceMethod yX2_loadEdges, .selects RX2 yX2_loadEdges yX2_loadEdges, .methodLink RX2 42 yX2_fillsFrom, .instanceMethod yX2_fillsFrom, .selects RX2 yX2_fillsFrom yX2_fillsFrom, .methodLink RX2 73 yX2_writeCore, .instanceMethod yX2_writeCore, .selects RX2 yX2_writeCore yX2_writeCore] : List Cond) ++ ((wsX20 ++ (wsX30)) ++ (wvX2_countWalks ++ (wvX3_tell ++ (wvX9_add ++ (wvX2_countedItems ++ (wvX2_loadEdges ++ (wvX2_fillsFrom ++ (wvX2_writeCore)))))))))
theorem huX2_solve_2 : ∀ w ∈ u_ws RX2 TX2 10, w ∈ wvX2_solve := fun w h => List.mem_cons_of_mem _ (List.mem_append_right _ (List.mem_append_left _ (List.mem_append_left _ h)))
theorem huX2_solve_3 : ∀ w ∈ u_ws RX3 TX3 17, w ∈ wvX2_solve := fun w h => List.mem_cons_of_mem _ (List.mem_append_right _ (List.mem_append_left _ (List.mem_append_right _ h)))
theorem hbX2_solve_X2_countWalks : ∀ w ∈ wvX2_countWalks, w ∈ wvX2_solve := fun w h => List.mem_cons_of_mem _ (List.mem_append_right _ (List.mem_append_right _ (List.mem_append_left _ h)))
theorem hbX2_solve_X3_tell : ∀ w ∈ wvX3_tell, w ∈ wvX2_solve := fun w h => List.mem_cons_of_mem _ (List.mem_append_right _ (List.mem_append_right _ (List.mem_append_right _ (List.mem_append_left _ h))))
theorem hbX2_solve_X9_add : ∀ w ∈ wvX9_add, w ∈ wvX2_solve := fun w h => List.mem_cons_of_mem _ (List.mem_append_right _ (List.mem_append_right _ (List.mem_append_right _ (List.mem_append_right _ (List.mem_append_left _ h)))))
theorem hbX2_solve_X2_countedItems : ∀ w ∈ wvX2_countedItems, w ∈ wvX2_solve := fun w h => List.mem_cons_of_mem _ (List.mem_append_right _ (List.mem_append_right _ (List.mem_append_right _ (List.mem_append_right _ (List.mem_append_right _ (List.mem_append_left _ h))))))
theorem hbX2_solve_X2_loadEdges : ∀ w ∈ wvX2_loadEdges, w ∈ wvX2_solve := fun w h => List.mem_cons_of_mem _ (List.mem_append_right _ (List.mem_append_right _ (List.mem_append_right _ (List.mem_append_right _ (List.mem_append_right _ (List.mem_append_right _ (List.mem_append_left _ h)))))))
theorem hbX2_solve_X2_fillsFrom : ∀ w ∈ wvX2_fillsFrom, w ∈ wvX2_solve := fun w h => List.mem_cons_of_mem _ (List.mem_append_right _ (List.mem_append_right _ (List.mem_append_right _ (List.mem_append_right _ (List.mem_append_right _ (List.mem_append_right _ (List.mem_append_right _ (List.mem_append_left _ h))))))))
theorem hbX2_solve_X2_writeCore : ∀ w ∈ wvX2_writeCore, w ∈ wvX2_solve := fun w h => List.mem_cons_of_mem _ (List.mem_append_right _ (List.mem_append_right _ (List.mem_append_right _ (List.mem_append_right _ (List.mem_append_right _ (List.mem_append_right _ (List.mem_append_right _ (List.mem_append_right _ h))))))))
theorem gdX2_solve : ∀ w ∈ wvX2_solve, wkGd w := wkGdC rfl (wkGdA (wkGdL (by decide +kernel)) (wkGdA (wkGdA gdX2 gdX3) (wkGdA gdX2_countWalks (wkGdA gdX3_tell (wkGdA gdX9_add (wkGdA gdX2_countedItems (wkGdA gdX2_loadEdges (wkGdA gdX2_fillsFrom gdX2_writeCore))))))))
def rX2_solve_b0 (F : Nat) (k n : Nat) (rec : Nat → Nat → Nat → Nat → Nat → Int32 → wPS → (Unit → wPS → Prop) → Prop) (c s : Nat) (l0A : Nat) (l1A : Nat) (l3I : Int32) (S : wPS) (Φ : (Unit → wPS → Prop)) : Prop :=
  if (gDrawings_places S l0A) ≤ l3I then (rX2_countWalks F l0A ((gDrawings_nodeCount S l0A) - (1 : Int32)) S fun v2 S3 => rX3_tell F l1A (1 : Int32) v2 S3 fun v7 S8 => Φ () S8) else (¬ (l3I < 0 ∨ S.len (wkAd (gDrawings_ring S l0A)) ≤ (l3I).toNatClampNeg) ∧ ∃ k16 n17 : Nat, c + k16 ≤ k ∧ s + n17 ≤ n ∧ rX9_add F k16 n17 (wkAd (gEntry_row S l1A)) (S.rI (wkAd (gDrawings_ring S l0A)) (l3I).toNatClampNeg) S fun v13 S14 => wkLt (l3I + (1 : Int32)) fun x18 => rec 0 (c + k16) (s + n17) l0A l1A x18 S14 Φ)
def rX2_solve_go (F : Nat) (k n : Nat) : Nat → Nat → Nat → Nat → Nat → Nat → Int32 → wPS → (Unit → wPS → Prop) → Prop
  | 0, _, _, _, _, _, _, _, _ => False
  | k' + 1, lab, c, s, l0A, l1A, l3I, S, Φ => if lab = 0 then rX2_solve_b0 F k n (rX2_solve_go F k n k') c s l0A l1A l3I S Φ else False
def rX2_solve_s (F : Nat) (k n : Nat) (rec : Nat → Nat → Nat → Nat → Nat → Int32 → wPS → (Unit → wPS → Prop) → Prop) (l0A : Nat) (l1A : Nat) (S : wPS) (Φ : (Unit → wPS → Prop)) : Prop :=
  rX2_countedItems F l1A S fun v19 S20 => rX2_loadEdges F l0A l1A v19 S20 fun v24 S25 => rX2_fillsFrom F 48 l0A (0 : Int32) S25 fun v29 S30 => if v29 = 0 then (∃ k38 n39 : Nat, 0 + k38 ≤ k ∧ 0 + n39 ≤ n ∧ rX2_writeCore F k38 n39 l0A l1A v19 S30 fun v35 S36 => rX3_tell F l1A (0 : Int32) (0 : Int32) S36 fun v40 S41 => Φ () S41) else (rec 0 0 0 l0A l1A (0 : Int32) S30 Φ)
def rX2_solve (F : Nat) (k n : Nat) (l0A : Nat) (l1A : Nat) (S : wPS) (Φ : (Unit → wPS → Prop)) : Prop := rX2_solve_s F k n (rX2_solve_go F k n F) l0A l1A S Φ
set_option maxHeartbeats 4000000 in
set_option maxRecDepth 100000 in
theorem tX2_solve_go {k n : Nat} {l : Launch} {X : wkX} {d F : Nat} {S0 : wPS} {Φ : (Unit → wPS → Prop)} (C : wkC X cX2_solve RX2 4 wvX2_solve) (hR : wkRm X d k n) (hd : 53 ≤ d) (E : wkEnd l X cX2_solve 4 none k n (fun v' S'' => ∃ v : Unit, v' = none ∧ Φ v S'' ∧ wkWF S'' ∧ wkExt S0 S'')) : ∀ k' : Nat, (∀ (c s : Nat), c ≤ k → s ≤ n → ∀ (l0A : Nat) (l1A : Nat) (l3I : Int32) (S : wPS), wkWF S → wkExt S0 S → wkIs S l0A 2 → wkIs S l1A 3 → rX2_solve_go F k n k' 0 c s l0A l1A l3I S Φ → wkGo l X 4 c s 21 S [some (.ref l0A), some (.ref l1A), none, some (.int l3I)] []) := by
  intro k'
  induction k' with
  | zero => exact fun c s hc hs l0A l1A l3I S hW hE hl0A hl1A h => h.elim
  | succ k' ih =>
    · intro c s hc hs l0A l1A l3I S hW hE hl0A hl1A h
      have h : rX2_solve_b0 F k n (rX2_solve_go F k n k') c s l0A l1A l3I S Φ := by
        rw [rX2_solve_go, if_pos (rfl : (0 : Nat) = 0)] at h
        exact h
      unfold rX2_solve_b0 at h
      refine wk_iload_n C dX2_solve_21 rfl rfl ?_
      refine wk_aload_n C dX2_solve_22 rfl rfl ?_
      refine wk_get C (v := .int (gDrawings_places S l0A)) huX2_solve_2 hl0A.1 (fun cy => wAt_2 cy _ hl0A.2) rfl 9 (by decide) (List.mem_of_getElem? (i := 1) rfl) rfl rfl dX2_solve_23 ?_
      refine wk_icmp_ge C (tgt := 48) dX2_solve_26 (by decide) (fun c1 => ?_) (fun c1 => ?_)
      · rw [if_pos c1] at h
        refine wk_aload_n C dX2_solve_48 rfl rfl ?_
        refine wk_iconst C (v := 1) dX2_solve_49 (by decide) ?_
        refine wk_aload_n C dX2_solve_50 rfl rfl ?_
        refine wk_aload_n C dX2_solve_51 rfl rfl ?_
        refine wk_get C (v := .int (gDrawings_nodeCount S l0A)) huX2_solve_2 hl0A.1 (fun cy => wAt_2 cy _ hl0A.2) rfl 8 (by decide) (List.mem_of_getElem? (i := 2) rfl) rfl rfl dX2_solve_52 ?_
        refine wk_iconst C (v := 1) dX2_solve_55 (by decide) ?_
        refine wk_isub C dX2_solve_56 rfl ?_
        refine wk_callV C hR (As := [.int ((gDrawings_nodeCount S l0A) - (1 : Int32))]) (cnt := 1) (tX2_countWalks (l := l) hW hl0A h) rfl (wkGoodV (List.mem_of_getElem? (i := 3) rfl) (List.mem_of_getElem? (i := 4) rfl) (List.mem_of_getElem? (i := 5) rfl) (List.mem_of_getElem? (i := 6) rfl) hbX2_solve_X2_countWalks gdX2_countWalks) (Nat.le_trans (by decide : 2 + 1 ≤ 53) hd) (by decide) hl0A.1 (fun cy => wAt_2 cy _ hl0A.2) rfl ⟨by decide, by decide, by decide +kernel⟩ rfl rfl (Nat.le_of_ble_eq_true rfl) hc hs dX2_solve_57 (fun v' S3 hp => ?_)
        obtain ⟨v2, rfl, h, hWS3, hXS3⟩ := hp
        refine wk_callV C hR (As := [.int (1 : Int32), .int v2]) (cnt := 2) (tX3_tell (l := l) hWS3 (hXS3 _ _ hl1A) h) rfl (wkGoodV (List.mem_of_getElem? (i := 7) rfl) (List.mem_of_getElem? (i := 8) rfl) (List.mem_of_getElem? (i := 9) rfl) (List.mem_of_getElem? (i := 10) rfl) hbX2_solve_X3_tell gdX3_tell) (Nat.le_trans (by decide : 0 + 1 ≤ 53) hd) (by decide) (hXS3 _ _ hl1A).1 (fun cy => wAt_3 cy _ (hXS3 _ _ hl1A).2) rfl ⟨by decide, by decide, by decide +kernel⟩ rfl rfl (Nat.le_of_ble_eq_true rfl) hc hs dX2_solve_60 (fun v' S8 hp => ?_)
        obtain ⟨v7, rfl, h, hWS8, hXS8⟩ := hp
        refine wk_goto C (tgt := 78) dX2_solve_63 (by decide) ?_
        exact E _ _ _ _ _ hc hs dX2_solve_78 ⟨(), rfl, h, hWS8, (wkExt.tr (wkExt.tr hE hXS3) hXS8)⟩
      · rw [if_neg c1] at h
        refine wk_aload_n C dX2_solve_29 rfl rfl ?_
        refine wk_get C huX2_solve_3 hl1A.1 (fun cy => wAt_3 cy _ hl1A.2) rfl 13 (by decide) (List.mem_of_getElem? (i := 11) rfl) rfl (congrArg some (congrArg va_rf (wf_Entry_row hW hl1A).1)) dX2_solve_30 ?_
        refine wk_aload_n C dX2_solve_33 rfl rfl ?_
        refine wk_get C huX2_solve_2 hl0A.1 (fun cy => wAt_2 cy _ hl0A.2) rfl 4 (by decide) (List.mem_of_getElem? (i := 12) rfl) rfl (congrArg some (congrArg va_rf (wf_Drawings_ring hW hl0A).1)) dX2_solve_34 ?_
        refine wk_iload_n C dX2_solve_37 rfl rfl ?_
        obtain ⟨i12, h⟩ := h
        refine wk_iald C (wf_Drawings_ring hW hl0A).2.1 (wf_Drawings_ring hW hl0A).2.2 i12 rfl dX2_solve_38 ?_
        obtain ⟨k16, n17, hk16, hn17, h⟩ := h
        refine wk_callV C hR (As := [.int (S.rI (wkAd (gDrawings_ring S l0A)) (l3I).toNatClampNeg)]) (cnt := 1) (tX9_add (l := l) hW (wf_Entry_row hW hl1A).2 h) rfl (wkGoodV (List.mem_of_getElem? (i := 13) rfl) (List.mem_of_getElem? (i := 14) rfl) (List.mem_of_getElem? (i := 15) rfl) (List.mem_of_getElem? (i := 16) rfl) hbX2_solve_X9_add gdX9_add) (Nat.le_trans (by decide : 2 + 1 ≤ 53) hd) (by decide) (wf_Entry_row hW hl1A).2.1 (fun cy => wAt_9 cy _ (wf_Entry_row hW hl1A).2.2) rfl ⟨by decide, by decide, by decide +kernel⟩ rfl rfl (Nat.le_of_ble_eq_true rfl) hk16 hn17 dX2_solve_39 (fun v' S14 hp => ?_)
        obtain ⟨v13, rfl, h, hWS14, hXS14⟩ := hp
        obtain ⟨x18, ex18, h⟩ := wkLt_some h
        refine wk_iinc C (lv' := [some (.ref l0A), some (.ref l1A), none, some (.int x18)]) dX2_solve_42 rfl (by rw [ex18]; rfl) (by decide) rfl ?_
        refine wk_goto C (tgt := 21) dX2_solve_45 (by decide) ?_
        exact wk_forget (lv' := [some (.ref l0A), some (.ref l1A), none, some (.int x18)]) (wkLs.le ⟨rfl, rfl, rfl, trivial⟩) (ih _ _ hk16 hn17 _ _ _ _ hWS14 (wkExt.tr hE hXS14) (hXS14 _ _ hl0A) (hXS14 _ _ hl1A) h)
set_option maxHeartbeats 4000000 in
set_option maxRecDepth 100000 in
theorem tX2_solve {l : Launch} {g : wkG} {F : Nat} {k n : Nat}  {S : wPS} {l0A : Nat} {l1A : Nat} {Φ : (Unit → wPS → Prop)} (hW : wkWF S) (hl0A : wkIs S l0A 2) (hl1A : wkIs S l1A 3) (h : rX2_solve F k n l0A l1A S Φ) : wkMet l g yX2_solve wvX2_solve 53 k n [.ref l0A, .ref l1A] S (fun v' S'' => ∃ v : Unit, v' = none ∧ Φ v S'' ∧ wkWF S'' ∧ wkExt S S'') := by
  refine wkMet_of (ret := none) (by decide) rfl (Nat.le_of_ble_eq_true rfl) (fun X hg C hR E => ?_)
  subst hg
  have hE : wkExt S S := wkExt.rf
  have hd : 53 ≤ 53 := Nat.le_refl _
  show wkGo l X 4 0 0 0 S [some (.ref l0A), some (.ref l1A), none, none] []
  have ih := tX2_solve_go (F := F) C hR hd E F
  have h : rX2_solve_s F k n (rX2_solve_go F k n F) l0A l1A S Φ := h
  unfold rX2_solve_s at h
  refine wk_aload_n C dX2_solve_0 rfl rfl ?_
  refine wk_callW C hR (As := [.ref l1A]) (cnt := 1) (tX2_countedItems (l := l) hW hl1A h) rfl (wkGoodW (List.mem_of_getElem? (i := 17) rfl) (List.mem_of_getElem? (i := 18) rfl) (List.mem_of_getElem? (i := 6) rfl) hbX2_solve_X2_countedItems gdX2_countedItems) (Nat.le_trans (by decide : 1 + 1 ≤ 53) hd) (by decide) ⟨by decide, by decide, by decide +kernel⟩ rfl rfl (Nat.le_of_ble_eq_true rfl) (Nat.zero_le _) (Nat.zero_le _) dX2_solve_1 (fun v' S20 hp => ?_)
  obtain ⟨v19, rfl, h, hWS20, hXS20⟩ := hp
  refine wk_istore_n C (lv' := [some (.ref l0A), some (.ref l1A), some (.int v19), none]) dX2_solve_4 rfl (by decide) rfl ?_
  refine wk_aload_n C dX2_solve_5 rfl rfl ?_
  refine wk_aload_n C dX2_solve_6 rfl rfl ?_
  refine wk_iload_n C dX2_solve_7 rfl rfl ?_
  refine wk_callV C hR (As := [.ref l1A, .int v19]) (cnt := 2) (tX2_loadEdges (l := l) hWS20 (hXS20 _ _ hl0A) (hXS20 _ _ hl1A) h) rfl (wkGoodV (List.mem_of_getElem? (i := 19) rfl) (List.mem_of_getElem? (i := 20) rfl) (List.mem_of_getElem? (i := 21) rfl) (List.mem_of_getElem? (i := 6) rfl) hbX2_solve_X2_loadEdges gdX2_loadEdges) (Nat.le_trans (by decide : 2 + 1 ≤ 53) hd) (by decide) (hXS20 _ _ hl0A).1 (fun cy => wAt_2 cy _ (hXS20 _ _ hl0A).2) rfl ⟨by decide, by decide, by decide +kernel⟩ rfl rfl (Nat.le_of_ble_eq_true rfl) (Nat.zero_le _) (Nat.zero_le _) dX2_solve_8 (fun v' S25 hp => ?_)
  obtain ⟨v24, rfl, h, hWS25, hXS25⟩ := hp
  refine wk_aload_n C dX2_solve_11 rfl rfl ?_
  refine wk_iconst C (v := 0) dX2_solve_12 (by decide) ?_
  refine wk_callV C hR (As := [.int (0 : Int32)]) (cnt := 1) (tX2_fillsFrom (l := l) hWS25 (hXS25 _ _ (hXS20 _ _ hl0A)) h) rfl (wkGoodV (List.mem_of_getElem? (i := 22) rfl) (List.mem_of_getElem? (i := 23) rfl) (List.mem_of_getElem? (i := 24) rfl) (List.mem_of_getElem? (i := 6) rfl) hbX2_solve_X2_fillsFrom gdX2_fillsFrom) (Nat.le_trans (by decide : 51 + 1 ≤ 53) hd) (by decide) (hXS25 _ _ (hXS20 _ _ hl0A)).1 (fun cy => wAt_2 cy _ (hXS25 _ _ (hXS20 _ _ hl0A)).2) rfl ⟨by decide, by decide, by decide +kernel⟩ rfl rfl (Nat.le_of_ble_eq_true rfl) (Nat.zero_le _) (Nat.zero_le _) dX2_solve_13 (fun v' S30 hp => ?_)
  obtain ⟨v29, rfl, h, hWS30, hXS30⟩ := hp
  refine wk_if_eq C (tgt := 66) dX2_solve_16 (by decide) (fun c34 => ?_) (fun c34 => ?_)
  · rw [if_pos c34] at h
    refine wk_aload_n C dX2_solve_66 rfl rfl ?_
    refine wk_aload_n C dX2_solve_67 rfl rfl ?_
    refine wk_iload_n C dX2_solve_68 rfl rfl ?_
    obtain ⟨k38, n39, hk38, hn39, h⟩ := h
    refine wk_callV C hR (As := [.ref l1A, .int v19]) (cnt := 2) (tX2_writeCore (l := l) hWS30 (hXS30 _ _ (hXS25 _ _ (hXS20 _ _ hl0A))) (hXS30 _ _ (hXS25 _ _ (hXS20 _ _ hl1A))) h) rfl (wkGoodV (List.mem_of_getElem? (i := 25) rfl) (List.mem_of_getElem? (i := 26) rfl) (List.mem_of_getElem? (i := 27) rfl) (List.mem_of_getElem? (i := 6) rfl) hbX2_solve_X2_writeCore gdX2_writeCore) (Nat.le_trans (by decide : 52 + 1 ≤ 53) hd) (by decide) (hXS30 _ _ (hXS25 _ _ (hXS20 _ _ hl0A))).1 (fun cy => wAt_2 cy _ (hXS30 _ _ (hXS25 _ _ (hXS20 _ _ hl0A))).2) rfl ⟨by decide, by decide, by decide +kernel⟩ rfl rfl (Nat.le_of_ble_eq_true rfl) hk38 hn39 dX2_solve_69 (fun v' S36 hp => ?_)
    obtain ⟨v35, rfl, h, hWS36, hXS36⟩ := hp
    refine wk_aload_n C dX2_solve_72 rfl rfl ?_
    refine wk_iconst C (v := 0) dX2_solve_73 (by decide) ?_
    refine wk_iconst C (v := 0) dX2_solve_74 (by decide) ?_
    refine wk_callV C hR (As := [.int (0 : Int32), .int (0 : Int32)]) (cnt := 2) (tX3_tell (l := l) hWS36 (hXS36 _ _ (hXS30 _ _ (hXS25 _ _ (hXS20 _ _ hl1A)))) h) rfl (wkGoodV (List.mem_of_getElem? (i := 7) rfl) (List.mem_of_getElem? (i := 8) rfl) (List.mem_of_getElem? (i := 9) rfl) (List.mem_of_getElem? (i := 10) rfl) hbX2_solve_X3_tell gdX3_tell) (Nat.le_trans (by decide : 0 + 1 ≤ 53) hd) (by decide) (hXS36 _ _ (hXS30 _ _ (hXS25 _ _ (hXS20 _ _ hl1A)))).1 (fun cy => wAt_3 cy _ (hXS36 _ _ (hXS30 _ _ (hXS25 _ _ (hXS20 _ _ hl1A)))).2) rfl ⟨by decide, by decide, by decide +kernel⟩ rfl rfl (Nat.le_of_ble_eq_true rfl) hk38 hn39 dX2_solve_75 (fun v' S41 hp => ?_)
    obtain ⟨v40, rfl, h, hWS41, hXS41⟩ := hp
    exact E _ _ _ _ _ hk38 hn39 dX2_solve_78 ⟨(), rfl, h, hWS41, (wkExt.tr (wkExt.tr (wkExt.tr (wkExt.tr (wkExt.tr hE hXS20) hXS25) hXS30) hXS36) hXS41)⟩
  · rw [if_neg c34] at h
    refine wk_iconst C (v := 0) dX2_solve_19 (by decide) ?_
    refine wk_istore_n C (lv' := [some (.ref l0A), some (.ref l1A), some (.int v19), some (.int (0 : Int32))]) dX2_solve_20 rfl (by decide) rfl ?_
    exact wk_forget (lv' := [some (.ref l0A), some (.ref l1A), none, some (.int (0 : Int32))]) (wkLs.le ⟨rfl, rfl, rfl, trivial⟩) (ih _ _ (Nat.zero_le _) (Nat.zero_le _) _ _ _ _ hWS30 (wkExt.tr (wkExt.tr (wkExt.tr hE hXS20) hXS25) hXS30) (hXS30 _ _ (hXS25 _ _ (hXS20 _ _ hl0A))) (hXS30 _ _ (hXS25 _ _ (hXS20 _ _ hl1A))) h)
