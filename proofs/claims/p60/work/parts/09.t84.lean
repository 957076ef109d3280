def wvX8_judgeSigns : List Cond := .code yX8_judgeSigns cX8_judgeSigns 4 (some .int) :: (([.fieldLink RX8 135 "Witnessworks$Row" "count" "I", .methodLink RX8 166 yX8_rootsOfPart, .instanceMethod yX8_rootsOfPart, .selects RX8 yX8_rootsOfPart yX8_rootsOfPart, .initialized RX8, .fieldLink RX8 74 "Witnessworks$Entry" "boundNow" "I", .methodLink RX8 67 yX9_at, .instanceMethod yX9_at, .selects RX9 yX9_at yX9_at, .initialized RX9, .methodLink RX8 176 yX8_signInRow, .instanceMethod yX8_signInRow, .selects RX8 yX8_signInRow yX8_signInRow, .methodLink RX8 163 yX8_buildChain, .instanceMethod yX8_buildChain, .selects RX8 yX8_buildChain yX8_buildChain, .fieldLink RX8 173 "Witnessworks$Numbers" "chainCount" "I"] : List Cond) ++ ((wsX90 ++ (wsX30 ++ (wsX80))) ++ (wvX8_rootsOfPart ++ (wvX9_at ++ (wvX8_signInRow ++ (wvX8_buildChain))))))
theorem huX8_judgeSigns_9 : ∀ w ∈ u_ws RX9 TX9 2, w ∈ wvX8_judgeSigns := fun w h => List.mem_cons_of_mem _ (List.mem_append_right _ (List.mem_append_left _ (List.mem_append_left _ h)))
theorem huX8_judgeSigns_3 : ∀ w ∈ u_ws RX3 TX3 17, w ∈ wvX8_judgeSigns := fun w h => List.mem_cons_of_mem _ (List.mem_append_right _ (List.mem_append_left _ (List.mem_append_right _ (List.mem_append_left _ h))))
theorem huX8_judgeSigns_8 : ∀ w ∈ u_ws RX8 TX8 9, w ∈ wvX8_judgeSigns := fun w h => List.mem_cons_of_mem _ (List.mem_append_right _ (List.mem_append_left _ (List.mem_append_right _ (List.mem_append_right _ h))))
theorem hbX8_judgeSigns_X8_rootsOfPart : ∀ w ∈ wvX8_rootsOfPart, w ∈ wvX8_judgeSigns := fun w h => List.mem_cons_of_mem _ (List.mem_append_right _ (List.mem_append_right _ (List.mem_append_left _ h)))
theorem hbX8_judgeSigns_X9_at : ∀ w ∈ wvX9_at, w ∈ wvX8_judgeSigns := fun w h => List.mem_cons_of_mem _ (List.mem_append_right _ (List.mem_append_right _ (List.mem_append_right _ (List.mem_append_left _ h))))
theorem hbX8_judgeSigns_X8_signInRow : ∀ w ∈ wvX8_signInRow, w ∈ wvX8_judgeSigns := fun w h => List.mem_cons_of_mem _ (List.mem_append_right _ (List.mem_append_right _ (List.mem_append_right _ (List.mem_append_right _ (List.mem_append_left _ h)))))
theorem hbX8_judgeSigns_X8_buildChain : ∀ w ∈ wvX8_buildChain, w ∈ wvX8_judgeSigns := fun w h => List.mem_cons_of_mem _ (List.mem_append_right _ (List.mem_append_right _ (List.mem_append_right _ (List.mem_append_right _ (List.mem_append_right _ h)))))
theorem gdX8_judgeSigns : ∀ w ∈ wvX8_judgeSigns, wkGd w := wkGdC rfl (wkGdA (wkGdL (by decide +kernel)) (wkGdA (wkGdA gdX9 (wkGdA gdX3 gdX8)) (wkGdA gdX8_rootsOfPart (wkGdA gdX9_at (wkGdA gdX8_signInRow gdX8_buildChain)))))
def rX8_judgeSigns_b0 (F : Nat) (rec : Nat → Nat → Nat → Nat → Int32 → wPS → (Int32 → wPS → Prop) → Prop) (l0A : Nat) (l1A : Nat) (l2A : Nat) (l3I : Int32) (S : wPS) (Φ : (Int32 → wPS → Prop)) : Prop :=
  if (gRow_count S l2A) ≤ l3I then (rX8_rootsOfPart F l0A (0 : Int32) (0 : Int32) S fun v2 S3 => if (gEntry_boundNow S3 l1A) ≤ v2 then (Φ (3 : Int32) S3) else (Φ (0 : Int32) S3)) else (rX9_at F l2A l3I S fun v8 S9 => rX8_signInRow F l0A l3I S9 fun v13 S14 => if v8 = v13 then (wkLt (l3I + (1 : Int32)) fun x19 => rec 0 l0A l1A l2A x19 S14 Φ) else (Φ (2 : Int32) S14))
def rX8_judgeSigns_go (F : Nat) : Nat → Nat → Nat → Nat → Nat → Int32 → wPS → (Int32 → wPS → Prop) → Prop
  | 0, _, _, _, _, _, _, _ => False
  | k' + 1, lab, l0A, l1A, l2A, l3I, S, Φ => if lab = 0 then rX8_judgeSigns_b0 F (rX8_judgeSigns_go F k') l0A l1A l2A l3I S Φ else False
def rX8_judgeSigns_s (F : Nat) (rec : Nat → Nat → Nat → Nat → Int32 → wPS → (Int32 → wPS → Prop) → Prop) (l0A : Nat) (l1A : Nat) (l2A : Nat) (S : wPS) (Φ : (Int32 → wPS → Prop)) : Prop :=
  rX8_buildChain F l0A l1A S fun v20 S21 => if (gRow_count S21 l2A) = ((2 : Int32) * (gNumbers_chainCount S21 l0A)) then (rec 0 l0A l1A l2A (0 : Int32) S21 Φ) else (Φ (1 : Int32) S21)
def rX8_judgeSigns (F : Nat) (l0A : Nat) (l1A : Nat) (l2A : Nat) (S : wPS) (Φ : (Int32 → wPS → Prop)) : Prop := rX8_judgeSigns_s F (rX8_judgeSigns_go F F) l0A l1A l2A S Φ
set_option maxHeartbeats 4000000 in
set_option maxRecDepth 100000 in
theorem tX8_judgeSigns_go {l : Launch} {X : wkX} {d F : Nat} {S0 : wPS} {Φ : (Int32 → wPS → Prop)} (C : wkC X cX8_judgeSigns RX8 4 wvX8_judgeSigns) (hR : wkRm X d 0 0) (hd : 5 ≤ d) (E : wkEnd l X cX8_judgeSigns 4 (some .int) 0 0 (fun v' S'' => ∃ v : Int32, v' = some (.int v) ∧ Φ v S'' ∧ wkWF S'' ∧ wkExt S0 S'')) : ∀ k' : Nat, (∀ (l0A : Nat) (l1A : Nat) (l2A : Nat) (l3I : Int32) (S : wPS), wkWF S → wkExt S0 S → wkIs S l0A 8 → wkIs S l1A 3 → wkIs S l2A 9 → rX8_judgeSigns_go F k' 0 l0A l1A l2A l3I S Φ → wkGo l X 4 0 0 22 S [some (.ref l0A), some (.ref l1A), some (.ref l2A), some (.int l3I)] []) := by
  intro k'
  induction k' with
  | zero => exact fun l0A l1A l2A l3I S hW hE hl0A hl1A hl2A h => h.elim
  | succ k' ih =>
    · intro l0A l1A l2A l3I S hW hE hl0A hl1A hl2A h
      have h : rX8_judgeSigns_b0 F (rX8_judgeSigns_go F k') l0A l1A l2A l3I S Φ := by
        rw [rX8_judgeSigns_go, if_pos (rfl : (0 : Nat) = 0)] at h
        exact h
      unfold rX8_judgeSigns_b0 at h
      refine wk_iload_n C dX8_judgeSigns_22 rfl rfl ?_
      refine wk_aload_n C dX8_judgeSigns_23 rfl rfl ?_
      refine wk_get C (v := .int (gRow_count S l2A)) huX8_judgeSigns_9 hl2A.1 (fun cy => wAt_9 cy _ hl2A.2) rfl 1 (by decide) (List.mem_of_getElem? (i := 1) rfl) rfl rfl dX8_judgeSigns_24 ?_
      refine wk_icmp_ge C (tgt := 51) dX8_judgeSigns_27 (by decide) (fun c1 => ?_) (fun c1 => ?_)
      · rw [if_pos c1] at h
        refine wk_aload_n C dX8_judgeSigns_51 rfl rfl ?_
        refine wk_iconst C (v := 0) dX8_judgeSigns_52 (by decide) ?_
        refine wk_iconst C (v := 0) dX8_judgeSigns_53 (by decide) ?_
        refine wk_callV C hR (As := [.int (0 : Int32), .int (0 : Int32)]) (cnt := 2) (tX8_rootsOfPart (l := l) hW hl0A h) rfl (wkGoodV (List.mem_of_getElem? (i := 2) rfl) (List.mem_of_getElem? (i := 3) rfl) (List.mem_of_getElem? (i := 4) rfl) (List.mem_of_getElem? (i := 5) rfl) hbX8_judgeSigns_X8_rootsOfPart gdX8_rootsOfPart) (Nat.le_trans (by decide : 2 + 1 ≤ 5) hd) (by decide) hl0A.1 (fun cy => wAt_8 cy _ hl0A.2) rfl ⟨by decide, by decide, by decide +kernel⟩ rfl rfl (Nat.le_of_ble_eq_true rfl) (Nat.le_refl 0) (Nat.le_refl 0) dX8_judgeSigns_54 (fun v' S3 hp => ?_)
        obtain ⟨v2, rfl, h, hWS3, hXS3⟩ := hp
        refine wk_aload_n C dX8_judgeSigns_57 rfl rfl ?_
        refine wk_get C (v := .int (gEntry_boundNow S3 l1A)) huX8_judgeSigns_3 (hXS3 _ _ hl1A).1 (fun cy => wAt_3 cy _ (hXS3 _ _ hl1A).2) rfl 8 (by decide) (List.mem_of_getElem? (i := 6) rfl) rfl rfl dX8_judgeSigns_58 ?_
        refine wk_icmp_ge C (tgt := 68) dX8_judgeSigns_61 (by decide) (fun c7 => ?_) (fun c7 => ?_)
        · rw [if_pos c7] at h
          refine wk_iconst C (v := 3) dX8_judgeSigns_68 (by decide) ?_
          exact E _ _ _ _ _ _ (Nat.le_refl 0) (Nat.le_refl 0) dX8_judgeSigns_69 ⟨(3 : Int32), rfl, h, hWS3, (wkExt.tr hE hXS3)⟩
        · rw [if_neg c7] at h
          refine wk_iconst C (v := 0) dX8_judgeSigns_64 (by decide) ?_
          refine wk_goto C (tgt := 69) dX8_judgeSigns_65 (by decide) ?_
          exact E _ _ _ _ _ _ (Nat.le_refl 0) (Nat.le_refl 0) dX8_judgeSigns_69 ⟨(0 : Int32), rfl, h, hWS3, (wkExt.tr hE hXS3)⟩
      · rw [if_neg c1] at h
        refine wk_aload_n C dX8_judgeSigns_30 rfl rfl ?_
        refine wk_iload_n C dX8_judgeSigns_31 rfl rfl ?_
        refine wk_callV C hR (As := [.int l3I]) (cnt := 1) (tX9_at (l := l) hW hl2A h) rfl (wkGoodV (List.mem_of_getElem? (i := 7) rfl) (List.mem_of_getElem? (i := 8) rfl) (List.mem_of_getElem? (i := 9) rfl) (List.mem_of_getElem? (i := 10) rfl) hbX8_judgeSigns_X9_at gdX9_at) (Nat.le_trans (by decide : 0 + 1 ≤ 5) hd) (by decide) hl2A.1 (fun cy => wAt_9 cy _ hl2A.2) rfl ⟨by decide, by decide, by decide +kernel⟩ rfl rfl (Nat.le_of_ble_eq_true rfl) (Nat.le_refl 0) (Nat.le_refl 0) dX8_judgeSigns_32 (fun v' S9 hp => ?_)
        obtain ⟨v8, rfl, h, hWS9, hXS9⟩ := hp
        refine wk_aload_n C dX8_judgeSigns_35 rfl rfl ?_
        refine wk_iload_n C dX8_judgeSigns_36 rfl rfl ?_
        refine wk_callV C hR (As := [.int l3I]) (cnt := 1) (tX8_signInRow (l := l) hWS9 (hXS9 _ _ hl0A) h) rfl (wkGoodV (List.mem_of_getElem? (i := 11) rfl) (List.mem_of_getElem? (i := 12) rfl) (List.mem_of_getElem? (i := 13) rfl) (List.mem_of_getElem? (i := 5) rfl) hbX8_judgeSigns_X8_signInRow gdX8_signInRow) (Nat.le_trans (by decide : 1 + 1 ≤ 5) hd) (by decide) (hXS9 _ _ hl0A).1 (fun cy => wAt_8 cy _ (hXS9 _ _ hl0A).2) rfl ⟨by decide, by decide, by decide +kernel⟩ rfl rfl (Nat.le_of_ble_eq_true rfl) (Nat.le_refl 0) (Nat.le_refl 0) dX8_judgeSigns_37 (fun v' S14 hp => ?_)
        obtain ⟨v13, rfl, h, hWS14, hXS14⟩ := hp
        refine wk_icmp_eq C (tgt := 45) dX8_judgeSigns_40 (by decide) (fun c18 => ?_) (fun c18 => ?_)
        · rw [if_pos c18] at h
          obtain ⟨x19, ex19, h⟩ := wkLt_some h
          refine wk_iinc C (lv' := [some (.ref l0A), some (.ref l1A), some (.ref l2A), some (.int x19)]) dX8_judgeSigns_45 rfl (by rw [ex19]; rfl) (by decide) rfl ?_
          refine wk_goto C (tgt := 22) dX8_judgeSigns_48 (by decide) ?_
          exact wk_forget (lv' := [some (.ref l0A), some (.ref l1A), some (.ref l2A), some (.int x19)]) (wkLs.le ⟨rfl, rfl, rfl, rfl, trivial⟩) (ih _ _ _ _ _ hWS14 (wkExt.tr (wkExt.tr hE hXS9) hXS14) (hXS14 _ _ (hXS9 _ _ hl0A)) (hXS14 _ _ (hXS9 _ _ hl1A)) (hXS14 _ _ (hXS9 _ _ hl2A)) h)
        · rw [if_neg c18] at h
          refine wk_iconst C (v := 2) dX8_judgeSigns_43 (by decide) ?_
          exact E _ _ _ _ _ _ (Nat.le_refl 0) (Nat.le_refl 0) dX8_judgeSigns_44 ⟨(2 : Int32), rfl, h, hWS14, (wkExt.tr (wkExt.tr hE hXS9) hXS14)⟩
set_option maxHeartbeats 4000000 in
set_option maxRecDepth 100000 in
theorem tX8_judgeSigns {l : Launch} {g : wkG} {F : Nat}  {S : wPS} {l0A : Nat} {l1A : Nat} {l2A : Nat} {Φ : (Int32 → wPS → Prop)} (hW : wkWF S) (hl0A : wkIs S l0A 8) (hl1A : wkIs S l1A 3) (hl2A : wkIs S l2A 9) (h : rX8_judgeSigns F l0A l1A l2A S Φ) : wkMet l g yX8_judgeSigns wvX8_judgeSigns 5 0 0 [.ref l0A, .ref l1A, .ref l2A] S (fun v' S'' => ∃ v : Int32, v' = some (.int v) ∧ Φ v S'' ∧ wkWF S'' ∧ wkExt S S'') := by
  refine wkMet_of (ret := (some .int)) (by decide) rfl (Nat.le_of_ble_eq_true rfl) (fun X hg C hR E => ?_)
  subst hg
  have hE : wkExt S S := wkExt.rf
  have hd : 5 ≤ 5 := Nat.le_refl _
  show wkGo l X 4 0 0 0 S [some (.ref l0A), some (.ref l1A), some (.ref l2A), none] []
  have ih := tX8_judgeSigns_go (F := F) C hR hd E F
  have h : rX8_judgeSigns_s F (rX8_judgeSigns_go F F) l0A l1A l2A S Φ := h
  unfold rX8_judgeSigns_s at h
  refine wk_aload_n C dX8_judgeSigns_0 rfl rfl ?_
  refine wk_aload_n C dX8_judgeSigns_1 rfl rfl ?_
  refine wk_callV C hR (As := [.ref l1A]) (cnt := 1) (tX8_buildChain (l := l) hW hl0A hl1A h) rfl (wkGoodV (List.mem_of_getElem? (i := 14) rfl) (List.mem_of_getElem? (i := 15) rfl) (List.mem_of_getElem? (i := 16) rfl) (List.mem_of_getElem? (i := 5) rfl) hbX8_judgeSigns_X8_buildChain gdX8_buildChain) (Nat.le_trans (by decide : 4 + 1 ≤ 5) hd) (by decide) hl0A.1 (fun cy => wAt_8 cy _ hl0A.2) rfl ⟨by decide, by decide, by decide +kernel⟩ rfl rfl (Nat.le_of_ble_eq_true rfl) (Nat.le_refl 0) (Nat.le_refl 0) dX8_judgeSigns_2 (fun v' S21 hp => ?_)
  obtain ⟨v20, rfl, h, hWS21, hXS21⟩ := hp
  refine wk_aload_n C dX8_judgeSigns_5 rfl rfl ?_
  refine wk_get C (v := .int (gRow_count S21 l2A)) huX8_judgeSigns_9 (hXS21 _ _ hl2A).1 (fun cy => wAt_9 cy _ (hXS21 _ _ hl2A).2) rfl 1 (by decide) (List.mem_of_getElem? (i := 1) rfl) rfl rfl dX8_judgeSigns_6 ?_
  refine wk_iconst C (v := 2) dX8_judgeSigns_9 (by decide) ?_
  refine wk_aload_n C dX8_judgeSigns_10 rfl rfl ?_
  refine wk_get C (v := .int (gNumbers_chainCount S21 l0A)) huX8_judgeSigns_8 (hXS21 _ _ hl0A).1 (fun cy => wAt_8 cy _ (hXS21 _ _ hl0A).2) rfl 8 (by decide) (List.mem_of_getElem? (i := 17) rfl) rfl rfl dX8_judgeSigns_11 ?_
  refine wk_imul C dX8_judgeSigns_14 rfl ?_
  refine wk_icmp_eq C (tgt := 20) dX8_judgeSigns_15 (by decide) (fun c25 => ?_) (fun c25 => ?_)
  · rw [if_pos c25] at h
    refine wk_iconst C (v := 0) dX8_judgeSigns_20 (by decide) ?_
    refine wk_istore_n C (lv' := [some (.ref l0A), some (.ref l1A), some (.ref l2A), some (.int (0 : Int32))]) dX8_judgeSigns_21 rfl (by decide) rfl ?_
    exact wk_forget (lv' := [some (.ref l0A), some (.ref l1A), some (.ref l2A), some (.int (0 : Int32))]) (wkLs.le ⟨rfl, rfl, rfl, rfl, trivial⟩) (ih _ _ _ _ _ hWS21 (wkExt.tr hE hXS21) (hXS21 _ _ hl0A) (hXS21 _ _ hl1A) (hXS21 _ _ hl2A) h)
  · rw [if_neg c25] at h
    refine wk_iconst C (v := 1) dX8_judgeSigns_18 (by decide) ?_
    exact E _ _ _ _ _ _ (Nat.le_refl 0) (Nat.le_refl 0) dX8_judgeSigns_19 ⟨(1 : Int32), rfl, h, hWS21, (wkExt.tr hE hXS21)⟩
def wvX10_solvePermutations : List Cond := .code yX10_solvePermutations cX10_solvePermutations 5 none :: (([.methodLink RX10 41 yX10_reachAll, .instanceMethod yX10_reachAll, .selects RX10 yX10_reachAll yX10_reachAll, .initialized RX10, .fieldLink RX10 16 "Witnessworks$Words" "goal" "[I", .methodLink RX10 45 yX10_rankOf, .instanceMethod yX10_rankOf, .selects RX10 yX10_rankOf yX10_rankOf, .fieldLink RX10 32 "Witnessworks$Words" "cameBy" "[I", .methodLink RX10 49 yX3_tell, .instanceMethod yX3_tell, .selects RX3 yX3_tell yX3_tell, .initialized RX3, .fieldLink RX10 55 "Witnessworks$Entry" "row" "LWitnessworks$Row;", .methodLink RX10 63 yX10_writeRows, .instanceMethod yX10_writeRows, .selects RX10 yX10_writeRows yX10_writeRows, .methodLink RX10 59 yX10_writeItems, .instanceMethod yX10_writeItems, .selects RX10 yX10_writeItems yX10_writeItems] : List Cond) ++ ((wsX100 ++ (wsX30)) ++ (wvX10_reachAll ++ (wvX10_rankOf ++ (wvX3_tell ++ (wvX10_writeRows ++ (wvX10_writeItems)))))))
theorem huX10_solvePermutations_10 : ∀ w ∈ u_ws RX10 TX10 12, w ∈ wvX10_solvePermutations := fun w h => List.mem_cons_of_mem _ (List.mem_append_right _ (List.mem_append_left _ (List.mem_append_left _ h)))
theorem huX10_solvePermutations_3 : ∀ w ∈ u_ws RX3 TX3 17, w ∈ wvX10_solvePermutations := fun w h => List.mem_cons_of_mem _ (List.mem_append_right _ (List.mem_append_left _ (List.mem_append_right _ h)))
theorem hbX10_solvePermutations_X10_reachAll : ∀ w ∈ wvX10_reachAll, w ∈ wvX10_solvePermutations := fun w h => List.mem_cons_of_mem _ (List.mem_append_right _ (List.mem_append_right _ (List.mem_append_left _ h)))
theorem hbX10_solvePermutations_X10_rankOf : ∀ w ∈ wvX10_rankOf, w ∈ wvX10_solvePermutations := fun w h => List.mem_cons_of_mem _ (List.mem_append_right _ (List.mem_append_right _ (List.mem_append_right _ (List.mem_append_left _ h))))
theorem hbX10_solvePermutations_X3_tell : ∀ w ∈ wvX3_tell, w ∈ wvX10_solvePermutations := fun w h => List.mem_cons_of_mem _ (List.mem_append_right _ (List.mem_append_right _ (List.mem_append_right _ (List.mem_append_right _ (List.mem_append_left _ h)))))
theorem hbX10_solvePermutations_X10_writeRows : ∀ w ∈ wvX10_writeRows, w ∈ wvX10_solvePermutations := fun w h => List.mem_cons_of_mem _ (List.mem_append_right _ (List.mem_append_right _ (List.mem_append_right _ (List.mem_append_right _ (List.mem_append_right _ (List.mem_append_left _ h))))))
theorem hbX10_solvePermutations_X10_writeItems : ∀ w ∈ wvX10_writeItems, w ∈ wvX10_solvePermutations := fun w h => List.mem_cons_of_mem _ (List.mem_append_right _ (List.mem_append_right _ (List.mem_append_right _ (List.mem_append_right _ (List.mem_append_right _ (List.mem_append_right _ h))))))
theorem gdX10_solvePermutations : ∀ w ∈ wvX10_solvePermutations, wkGd w := wkGdC rfl (wkGdA (wkGdL (by decide +kernel)) (wkGdA (wkGdA gdX10 gdX3) (wkGdA gdX10_reachAll (wkGdA gdX10_rankOf (wkGdA gdX3_tell (wkGdA gdX10_writeRows gdX10_writeItems))))))
def rX10_solvePermutations (F : Nat) (k n : Nat) (l0A : Nat) (l1A : Nat) (S : wPS) (Φ : (Unit → wPS → Prop)) : Prop :=
  rX10_reachAll F l0A l1A S fun v1 S2 => rX10_rankOf F l0A (wkAd (gWords_goal S2 l0A)) S2 fun v6 S7 => ¬ (v6 < 0 ∨ S7.len (wkAd (gWords_cameBy S7 l0A)) ≤ (v6).toNatClampNeg) ∧ if (S7.rI (wkAd (gWords_cameBy S7 l0A)) (v6).toNatClampNeg) < 0 then (rX3_tell F l1A (0 : Int32) v1 S7 fun v13 S14 => ∃ k21 n22 : Nat, 0 + k21 ≤ k ∧ 0 + n22 ≤ n ∧ rX10_writeRows F k21 n22 l0A (wkAd (gEntry_row S14 l1A)) S14 fun v18 S19 => Φ () S19) else (rX3_tell F l1A (1 : Int32) v1 S7 fun v23 S24 => ∃ k31 n32 : Nat, 0 + k31 ≤ k ∧ 0 + n32 ≤ n ∧ rX10_writeItems F k31 n32 l0A v6 (wkAd (gEntry_row S24 l1A)) S24 fun v28 S29 => Φ () S29)
set_option maxHeartbeats 4000000 in
set_option maxRecDepth 100000 in
theorem tX10_solvePermutations {l : Launch} {g : wkG} {F : Nat} {k n : Nat}  {S : wPS} {l0A : Nat} {l1A : Nat} {Φ : (Unit → wPS → Prop)} (hW : wkWF S) (hl0A : wkIs S l0A 10) (hl1A : wkIs S l1A 3) (h : rX10_solvePermutations F k n l0A l1A S Φ) : wkMet l g yX10_solvePermutations wvX10_solvePermutations 4 k n [.ref l0A, .ref l1A] S (fun v' S'' => ∃ v : Unit, v' = none ∧ Φ v S'' ∧ wkWF S'' ∧ wkExt S S'') := by
  refine wkMet_of (ret := none) (by decide) rfl (Nat.le_of_ble_eq_true rfl) (fun X hg C hR E => ?_)
  subst hg
  have hE : wkExt S S := wkExt.rf
  have hd : 4 ≤ 4 := Nat.le_refl _
  show wkGo l X 5 0 0 0 S [some (.ref l0A), some (.ref l1A), none, none, none] []
  unfold rX10_solvePermutations at h
  refine wk_aload_n C dX10_solvePermutations_0 rfl rfl ?_
  refine wk_aload_n C dX10_solvePermutations_1 rfl rfl ?_
  refine wk_callV C hR (As := [.ref l1A]) (cnt := 1) (tX10_reachAll (l := l) hW hl0A hl1A h) rfl (wkGoodV (List.mem_of_getElem? (i := 1) rfl) (List.mem_of_getElem? (i := 2) rfl) (List.mem_of_getElem? (i := 3) rfl) (List.mem_of_getElem? (i := 4) rfl) hbX10_solvePermutations_X10_reachAll gdX10_reachAll) (Nat.le_trans (by decide : 3 + 1 ≤ 4) hd) (by decide) hl0A.1 (fun cy => wAt_10 cy _ hl0A.2) rfl ⟨by decide, by decide, by decide +kernel⟩ rfl rfl (Nat.le_of_ble_eq_true rfl) (Nat.zero_le _) (Nat.zero_le _) dX10_solvePermutations_2 (fun v' S2 hp => ?_)
  obtain ⟨v1, rfl, h, hWS2, hXS2⟩ := hp
  refine wk_istore_n C (lv' := [some (.ref l0A), some (.ref l1A), some (.int v1), none, none]) dX10_solvePermutations_5 rfl (by decide) rfl ?_
  refine wk_aload_n C dX10_solvePermutations_6 rfl rfl ?_
  refine wk_aload_n C dX10_solvePermutations_7 rfl rfl ?_
  refine wk_get C huX10_solvePermutations_10 (hXS2 _ _ hl0A).1 (fun cy => wAt_10 cy _ (hXS2 _ _ hl0A).2) rfl 1 (by decide) (List.mem_of_getElem? (i := 5) rfl) rfl (congrArg some (congrArg va_rf (wf_Words_goal hWS2 (hXS2 _ _ hl0A)).1)) dX10_solvePermutations_8 ?_
  refine wk_callV C hR (As := [.ref (wkAd (gWords_goal S2 l0A))]) (cnt := 1) (tX10_rankOf (l := l) hWS2 (hXS2 _ _ hl0A) (wf_Words_goal hWS2 (hXS2 _ _ hl0A)).2 h) rfl (wkGoodV (List.mem_of_getElem? (i := 6) rfl) (List.mem_of_getElem? (i := 7) rfl) (List.mem_of_getElem? (i := 8) rfl) (List.mem_of_getElem? (i := 4) rfl) hbX10_solvePermutations_X10_rankOf gdX10_rankOf) (Nat.le_trans (by decide : 0 + 1 ≤ 4) hd) (by decide) (hXS2 _ _ hl0A).1 (fun cy => wAt_10 cy _ (hXS2 _ _ hl0A).2) rfl ⟨by decide, by decide, by decide +kernel⟩ rfl rfl (Nat.le_of_ble_eq_true rfl) (Nat.zero_le _) (Nat.zero_le _) dX10_solvePermutations_11 (fun v' S7 hp => ?_)
  obtain ⟨v6, rfl, h, hWS7, hXS7⟩ := hp
  refine wk_istore_n C (lv' := [some (.ref l0A), some (.ref l1A), some (.int v1), some (.int v6), none]) dX10_solvePermutations_14 rfl (by decide) rfl ?_
  refine wk_aload_n C dX10_solvePermutations_15 rfl rfl ?_
  refine wk_get C huX10_solvePermutations_10 (hXS7 _ _ (hXS2 _ _ hl0A)).1 (fun cy => wAt_10 cy _ (hXS7 _ _ (hXS2 _ _ hl0A)).2) rfl 6 (by decide) (List.mem_of_getElem? (i := 9) rfl) rfl (congrArg some (congrArg va_rf (wf_Words_cameBy hWS7 (hXS7 _ _ (hXS2 _ _ hl0A))).1)) dX10_solvePermutations_16 ?_
  refine wk_iload_n C dX10_solvePermutations_19 rfl rfl ?_
  obtain ⟨i11, h⟩ := h
  refine wk_iald C (wf_Words_cameBy hWS7 (hXS7 _ _ (hXS2 _ _ hl0A))).2.1 (wf_Words_cameBy hWS7 (hXS7 _ _ (hXS2 _ _ hl0A))).2.2 i11 rfl dX10_solvePermutations_20 ?_
  refine wk_if_lt C (tgt := 28) dX10_solvePermutations_21 (by decide) (fun c12 => ?_) (fun c12 => ?_)
  · rw [if_pos c12] at h
    refine wk_iconst C (v := 0) dX10_solvePermutations_28 (by decide) ?_
    refine wk_istore C (lv' := [some (.ref l0A), some (.ref l1A), some (.int v1), some (.int v6), some (.int (0 : Int32))]) dX10_solvePermutations_29 (by decide) rfl ?_
    refine wk_aload_n C dX10_solvePermutations_31 rfl rfl ?_
    refine wk_iload C dX10_solvePermutations_32 rfl ?_
    refine wk_iload_n C dX10_solvePermutations_34 rfl rfl ?_
    refine wk_callV C hR (As := [.int (0 : Int32), .int v1]) (cnt := 2) (tX3_tell (l := l) hWS7 (hXS7 _ _ (hXS2 _ _ hl1A)) h) rfl (wkGoodV (List.mem_of_getElem? (i := 10) rfl) (List.mem_of_getElem? (i := 11) rfl) (List.mem_of_getElem? (i := 12) rfl) (List.mem_of_getElem? (i := 13) rfl) hbX10_solvePermutations_X3_tell gdX3_tell) (Nat.le_trans (by decide : 0 + 1 ≤ 4) hd) (by decide) (hXS7 _ _ (hXS2 _ _ hl1A)).1 (fun cy => wAt_3 cy _ (hXS7 _ _ (hXS2 _ _ hl1A)).2) rfl ⟨by decide, by decide, by decide +kernel⟩ rfl rfl (Nat.le_of_ble_eq_true rfl) (Nat.zero_le _) (Nat.zero_le _) dX10_solvePermutations_35 (fun v' S14 hp => ?_)
    obtain ⟨v13, rfl, h, hWS14, hXS14⟩ := hp
    refine wk_iload C dX10_solvePermutations_38 rfl ?_
    refine wk_if_eq C (tgt := 55) dX10_solvePermutations_40 (by decide) (fun _ => ?_) (fun c => False.elim (by revert c; decide))
    refine wk_aload_n C dX10_solvePermutations_55 rfl rfl ?_
    refine wk_aload_n C dX10_solvePermutations_56 rfl rfl ?_
    refine wk_get C huX10_solvePermutations_3 (hXS14 _ _ (hXS7 _ _ (hXS2 _ _ hl1A))).1 (fun cy => wAt_3 cy _ (hXS14 _ _ (hXS7 _ _ (hXS2 _ _ hl1A))).2) rfl 13 (by decide) (List.mem_of_getElem? (i := 14) rfl) rfl (congrArg some (congrArg va_rf (wf_Entry_row hWS14 (hXS14 _ _ (hXS7 _ _ (hXS2 _ _ hl1A)))).1)) dX10_solvePermutations_57 ?_
    obtain ⟨k21, n22, hk21, hn22, h⟩ := h
    refine wk_callV C hR (As := [.ref (wkAd (gEntry_row S14 l1A))]) (cnt := 1) (tX10_writeRows (l := l) hWS14 (hXS14 _ _ (hXS7 _ _ (hXS2 _ _ hl0A))) (wf_Entry_row hWS14 (hXS14 _ _ (hXS7 _ _ (hXS2 _ _ hl1A)))).2 h) rfl (wkGoodV (List.mem_of_getElem? (i := 15) rfl) (List.mem_of_getElem? (i := 16) rfl) (List.mem_of_getElem? (i := 17) rfl) (List.mem_of_getElem? (i := 4) rfl) hbX10_solvePermutations_X10_writeRows gdX10_writeRows) (Nat.le_trans (by decide : 3 + 1 ≤ 4) hd) (by decide) (hXS14 _ _ (hXS7 _ _ (hXS2 _ _ hl0A))).1 (fun cy => wAt_10 cy _ (hXS14 _ _ (hXS7 _ _ (hXS2 _ _ hl0A))).2) rfl ⟨by decide, by decide, by decide +kernel⟩ rfl rfl (Nat.le_of_ble_eq_true rfl) hk21 hn22 dX10_solvePermutations_60 (fun v' S19 hp => ?_)
    obtain ⟨v18, rfl, h, hWS19, hXS19⟩ := hp
    exact E _ _ _ _ _ hk21 hn22 dX10_solvePermutations_63 ⟨(), rfl, h, hWS19, (wkExt.tr (wkExt.tr (wkExt.tr (wkExt.tr hE hXS2) hXS7) hXS14) hXS19)⟩
  · rw [if_neg c12] at h
    refine wk_iconst C (v := 1) dX10_solvePermutations_24 (by decide) ?_
    refine wk_goto C (tgt := 29) dX10_solvePermutations_25 (by decide) ?_
    refine wk_istore C (lv' := [some (.ref l0A), some (.ref l1A), some (.int v1), some (.int v6), some (.int (1 : Int32))]) dX10_solvePermutations_29 (by decide) rfl ?_
    refine wk_aload_n C dX10_solvePermutations_31 rfl rfl ?_
    refine wk_iload C dX10_solvePermutations_32 rfl ?_
    refine wk_iload_n C dX10_solvePermutations_34 rfl rfl ?_
    refine wk_callV C hR (As := [.int (1 : Int32), .int v1]) (cnt := 2) (tX3_tell (l := l) hWS7 (hXS7 _ _ (hXS2 _ _ hl1A)) h) rfl (wkGoodV (List.mem_of_getElem? (i := 10) rfl) (List.mem_of_getElem? (i := 11) rfl) (List.mem_of_getElem? (i := 12) rfl) (List.mem_of_getElem? (i := 13) rfl) hbX10_solvePermutations_X3_tell gdX3_tell) (Nat.le_trans (by decide : 0 + 1 ≤ 4) hd) (by decide) (hXS7 _ _ (hXS2 _ _ hl1A)).1 (fun cy => wAt_3 cy _ (hXS7 _ _ (hXS2 _ _ hl1A)).2) rfl ⟨by decide, by decide, by decide +kernel⟩ rfl rfl (Nat.le_of_ble_eq_true rfl) (Nat.zero_le _) (Nat.zero_le _) dX10_solvePermutations_35 (fun v' S24 hp => ?_)
    obtain ⟨v23, rfl, h, hWS24, hXS24⟩ := hp
    refine wk_iload C dX10_solvePermutations_38 rfl ?_
    refine wk_if_eq C (tgt := 55) dX10_solvePermutations_40 (by decide) (fun c => False.elim (by revert c; decide)) (fun _ => ?_)
    refine wk_aload_n C dX10_solvePermutations_43 rfl rfl ?_
    refine wk_iload_n C dX10_solvePermutations_44 rfl rfl ?_
    refine wk_aload_n C dX10_solvePermutations_45 rfl rfl ?_
    refine wk_get C huX10_solvePermutations_3 (hXS24 _ _ (hXS7 _ _ (hXS2 _ _ hl1A))).1 (fun cy => wAt_3 cy _ (hXS24 _ _ (hXS7 _ _ (hXS2 _ _ hl1A))).2) rfl 13 (by decide) (List.mem_of_getElem? (i := 14) rfl) rfl (congrArg some (congrArg va_rf (wf_Entry_row hWS24 (hXS24 _ _ (hXS7 _ _ (hXS2 _ _ hl1A)))).1)) dX10_solvePermutations_46 ?_
    obtain ⟨k31, n32, hk31, hn32, h⟩ := h
    refine wk_callV C hR (As := [.int v6, .ref (wkAd (gEntry_row S24 l1A))]) (cnt := 2) (tX10_writeItems (l := l) hWS24 (hXS24 _ _ (hXS7 _ _ (hXS2 _ _ hl0A))) (wf_Entry_row hWS24 (hXS24 _ _ (hXS7 _ _ (hXS2 _ _ hl1A)))).2 h) rfl (wkGoodV (List.mem_of_getElem? (i := 18) rfl) (List.mem_of_getElem? (i := 19) rfl) (List.mem_of_getElem? (i := 20) rfl) (List.mem_of_getElem? (i := 4) rfl) hbX10_solvePermutations_X10_writeItems gdX10_writeItems) (Nat.le_trans (by decide : 3 + 1 ≤ 4) hd) (by decide) (hXS24 _ _ (hXS7 _ _ (hXS2 _ _ hl0A))).1 (fun cy => wAt_10 cy _ (hXS24 _ _ (hXS7 _ _ (hXS2 _ _ hl0A))).2) rfl ⟨by decide, by decide, by decide +kernel⟩ rfl rfl (Nat.le_of_ble_eq_true rfl) hk31 hn32 dX10_solvePermutations_49 (fun v' S29 hp => ?_)
    obtain ⟨v28, rfl, h, hWS29, hXS29⟩ := hp
    refine wk_goto C (tgt := 63) dX10_solvePermutations_52 (by decide) ?_
    exact E _ _ _ _ _ hk31 hn32 dX10_solvePermutations_63 ⟨(), rfl, h, hWS29, (wkExt.tr (wkExt.tr (wkExt.tr (wkExt.tr hE hXS2) hXS7) hXS24) hXS29)⟩
def wvX10_solveWords : List Cond := .code yX10_solveWords cX10_solveWords 8 none :: (([.methodLink RX10 49 yX3_tell, .instanceMethod yX3_tell, .selects RX3 yX3_tell yX3_tell, .initialized RX3, .fieldLink RX10 35 "Witnessworks$Words" "steps" "[I", .methodLink RX10 176 yX10_stepFrom, .instanceMethod yX10_stepFrom, .selects RX10 yX10_stepFrom yX10_stepFrom, .initialized RX10, .methodLink RX10 180 yX10_writeSteps, .instanceMethod yX10_writeSteps, .selects RX10 yX10_writeSteps yX10_writeSteps, .fieldLink RX10 55 "Witnessworks$Entry" "row" "LWitnessworks$Row;", .methodLink RX10 115 yX9_add, .instanceMethod yX9_add, .selects RX9 yX9_add yX9_add, .initialized RX9, .methodLink RX10 167 yX10_firstWord, .static yX10_firstWord, .methodLink RX10 170 yX10_secondWord, .static yX10_secondWord, .methodLink RX10 173 yX10_beyondWords, .static yX10_beyondWords] : List Cond) ++ ((wsX100 ++ (wsX30)) ++ (wvX3_tell ++ (wvX10_stepFrom ++ (wvX10_writeSteps ++ (wvX9_add ++ (wvX10_firstWord ++ (wvX10_secondWord ++ (wvX10_beyondWords)))))))))
theorem huX10_solveWords_10 : ∀ w ∈ u_ws RX10 TX10 12, w ∈ wvX10_solveWords := fun w h => List.mem_cons_of_mem _ (List.mem_append_right _ (List.mem_append_left _ (List.mem_append_left _ h)))
theorem huX10_solveWords_3 : ∀ w ∈ u_ws RX3 TX3 17, w ∈ wvX10_solveWords := fun w h => List.mem_cons_of_mem _ (List.mem_append_right _ (List.mem_append_left _ (List.mem_append_right _ h)))
theorem hbX10_solveWords_X3_tell : ∀ w ∈ wvX3_tell, w ∈ wvX10_solveWords := fun w h => List.mem_cons_of_mem _ (List.mem_append_right _ (List.mem_append_right _ (List.mem_append_left _ h)))
theorem hbX10_solveWords_X10_stepFrom : ∀ w ∈ wvX10_stepFrom, w ∈ wvX10_solveWords := fun w h => List.mem_cons_of_mem _ (List.mem_append_right _ (List.mem_append_right _ (List.mem_append_right _ (List.mem_append_left _ h))))
theorem hbX10_solveWords_X10_writeSteps : ∀ w ∈ wvX10_writeSteps, w ∈ wvX10_solveWords := fun w h => List.mem_cons_of_mem _ (List.mem_append_right _ (List.mem_append_right _ (List.mem_append_right _ (List.mem_append_right _ (List.mem_append_left _ h)))))
theorem hbX10_solveWords_X9_add : ∀ w ∈ wvX9_add, w ∈ wvX10_solveWords := fun w h => List.mem_cons_of_mem _ (List.mem_append_right _ (List.mem_append_right _ (List.mem_append_right _ (List.mem_append_right _ (List.mem_append_right _ (List.mem_append_left _ h))))))
theorem hbX10_solveWords_X10_firstWord : ∀ w ∈ wvX10_firstWord, w ∈ wvX10_solveWords := fun w h => List.mem_cons_of_mem _ (List.mem_append_right _ (List.mem_append_right _ (List.mem_append_right _ (List.mem_append_right _ (List.mem_append_right _ (List.mem_append_right _ (List.mem_append_left _ h)))))))
theorem hbX10_solveWords_X10_secondWord : ∀ w ∈ wvX10_secondWord, w ∈ wvX10_solveWords := fun w h => List.mem_cons_of_mem _ (List.mem_append_right _ (List.mem_append_right _ (List.mem_append_right _ (List.mem_append_right _ (List.mem_append_right _ (List.mem_append_right _ (List.mem_append_right _ (List.mem_append_left _ h))))))))
theorem hbX10_solveWords_X10_beyondWords : ∀ w ∈ wvX10_beyondWords, w ∈ wvX10_solveWords := fun w h => List.mem_cons_of_mem _ (List.mem_append_right _ (List.mem_append_right _ (List.mem_append_right _ (List.mem_append_right _ (List.mem_append_right _ (List.mem_append_right _ (List.mem_append_right _ (List.mem_append_right _ h))))))))
theorem gdX10_solveWords : ∀ w ∈ wvX10_solveWords, wkGd w := wkGdC rfl (wkGdA (wkGdL (by decide +kernel)) (wkGdA (wkGdA gdX10 gdX3) (wkGdA gdX3_tell (wkGdA gdX10_stepFrom (wkGdA gdX10_writeSteps (wkGdA gdX9_add (wkGdA gdX10_firstWord (wkGdA gdX10_secondWord gdX10_beyondWords))))))))
def rX10_solveWords_b0 (F : Nat) (k n : Nat) (rec : Nat → Nat → Nat → Nat → Nat → Int32 → Int32 → Int32 → Int32 → Int32 → wPS → (Unit → wPS → Prop) → Prop) (c s : Nat) (l0A : Nat) (l1A : Nat) (l2I : Int32) (l3I : Int32) (l4I : Int32) (s0I : Int32) (S : wPS) (Φ : (Unit → wPS → Prop)) : Prop :=
  if l4I ≤ l2I then (rX3_tell F l1A (0 : Int32) s0I S fun v2 S3 => if l4I ≤ l2I then (Φ () S3) else (rec 1 c s l0A l1A 0 0 l4I (1 : Int32) 0 S3 Φ)) else (if l4I ≤ l3I then (rX3_tell F l1A (0 : Int32) s0I S fun v9 S10 => if l4I ≤ l2I then (Φ () S10) else (rec 1 c s l0A l1A 0 0 l4I (1 : Int32) 0 S10 Φ)) else (¬ (l3I < 0 ∨ S.len (wkAd (gWords_steps S l0A)) ≤ (l3I).toNatClampNeg) ∧ if (S.rI (wkAd (gWords_steps S l0A)) (l3I).toNatClampNeg) < 0 then (rX3_tell F l1A (0 : Int32) s0I S fun v17 S18 => if l4I ≤ l2I then (Φ () S18) else (rec 1 c s l0A l1A 0 0 l4I (1 : Int32) 0 S18 Φ)) else (rX3_tell F l1A (1 : Int32) s0I S fun v23 S24 => rX10_stepFrom F l0A l1A l3I S24 fun v28 S29 => ∃ k36 n37 : Nat, c + k36 ≤ k ∧ s + n37 ≤ n ∧ rX10_writeSteps F k36 n37 l0A l1A l2I S29 fun v33 S34 => Φ () S34)))
def rX10_solveWords_b1 (F : Nat) (k n : Nat) (rec : Nat → Nat → Nat → Nat → Nat → Int32 → Int32 → Int32 → Int32 → Int32 → wPS → (Unit → wPS → Prop) → Prop) (c s : Nat) (l0A : Nat) (l1A : Nat) (l4I : Int32) (l7I : Int32) (S : wPS) (Φ : (Unit → wPS → Prop)) : Prop :=
  if l4I ≤ l7I then (Φ () S) else (¬ (l7I < 0 ∨ S.len (wkAd (gWords_steps S l0A)) ≤ (l7I).toNatClampNeg) ∧ if (S.rI (wkAd (gWords_steps S l0A)) (l7I).toNatClampNeg) < 0 then (wkLt (l7I + (1 : Int32)) fun x41 => rec 1 c s l0A l1A 0 0 l4I x41 0 S Φ) else (∃ k45 n46 : Nat, c + k45 ≤ k ∧ s + n46 ≤ n ∧ rX9_add F k45 n46 (wkAd (gEntry_row S l1A)) l7I S fun v42 S43 => wkLt (l7I + (1 : Int32)) fun x47 => rec 1 (c + k45) (s + n46) l0A l1A 0 0 l4I x47 0 S43 Φ))
def rX10_solveWords_go (F : Nat) (k n : Nat) : Nat → Nat → Nat → Nat → Nat → Nat → Int32 → Int32 → Int32 → Int32 → Int32 → wPS → (Unit → wPS → Prop) → Prop
  | 0, _, _, _, _, _, _, _, _, _, _, _, _ => False
  | k' + 1, lab, c, s, l0A, l1A, l2I, l3I, l4I, l7I, s0I, S, Φ => if lab = 0 then rX10_solveWords_b0 F k n (rX10_solveWords_go F k n k') c s l0A l1A l2I l3I l4I s0I S Φ else if lab = 1 then rX10_solveWords_b1 F k n (rX10_solveWords_go F k n k') c s l0A l1A l4I l7I S Φ else False
def rX10_solveWords_s (F : Nat) (k n : Nat) (rec : Nat → Nat → Nat → Nat → Nat → Int32 → Int32 → Int32 → Int32 → Int32 → wPS → (Unit → wPS → Prop) → Prop) (l0A : Nat) (l1A : Nat) (S : wPS) (Φ : (Unit → wPS → Prop)) : Prop :=
  rX10_firstWord F l1A S fun v48 S49 => rX10_secondWord F l1A S49 fun v53 S54 => rX10_beyondWords F l1A S54 fun v58 S59 => if v58 ≤ v48 then (rec 0 0 0 l0A l1A v48 v53 v58 0 (0 : Int32) S59 Φ) else (rX10_stepFrom F l0A l1A v48 S59 fun v64 S65 => rec 0 0 0 l0A l1A v48 v53 v58 0 v64 S65 Φ)
def rX10_solveWords (F : Nat) (k n : Nat) (l0A : Nat) (l1A : Nat) (S : wPS) (Φ : (Unit → wPS → Prop)) : Prop := rX10_solveWords_s F k n (rX10_solveWords_go F k n F) l0A l1A S Φ
set_option maxHeartbeats 4000000 in
set_option maxRecDepth 100000 in
theorem tX10_solveWords_go {k n : Nat} {l : Launch} {X : wkX} {d F : Nat} {S0 : wPS} {Φ : (Unit → wPS → Prop)} (C : wkC X cX10_solveWords RX10 8 wvX10_solveWords) (hR : wkRm X d k n) (hd : 4 ≤ d) (E : wkEnd l X cX10_solveWords 8 none k n (fun v' S'' => ∃ v : Unit, v' = none ∧ Φ v S'' ∧ wkWF S'' ∧ wkExt S0 S'')) : ∀ k' : Nat, (∀ (c s : Nat), c ≤ k → s ≤ n → ∀ (l0A : Nat) (l1A : Nat) (l2I : Int32) (l3I : Int32) (l4I : Int32) (s0I : Int32) (S : wPS), wkWF S → wkExt S0 S → wkIs S l0A 10 → wkIs S l1A 3 → rX10_solveWords_go F k n k' 0 c s l0A l1A l2I l3I l4I 0 s0I S Φ → wkGo l X 8 c s 32 S [some (.ref l0A), some (.ref l1A), some (.int l2I), some (.int l3I), some (.int l4I), none, none, none] [.int s0I]) ∧ (∀ (c s : Nat), c ≤ k → s ≤ n → ∀ (l0A : Nat) (l1A : Nat) (l4I : Int32) (l7I : Int32) (S : wPS), wkWF S → wkExt S0 S → wkIs S l0A 10 → wkIs S l1A 3 → rX10_solveWords_go F k n k' 1 c s l0A l1A 0 0 l4I l7I 0 S Φ → wkGo l X 8 c s 100 S [some (.ref l0A), some (.ref l1A), none, none, some (.int l4I), none, none, some (.int l7I)] []) := by
  intro k'
  induction k' with
  | zero => exact ⟨fun c s hc hs l0A l1A l2I l3I l4I s0I S hW hE hl0A hl1A h => h.elim, fun c s hc hs l0A l1A l4I l7I S hW hE hl0A hl1A h => h.elim⟩
  | succ k' ih =>
    refine ⟨?_, ?_⟩
    · intro c s hc hs l0A l1A l2I l3I l4I s0I S hW hE hl0A hl1A h
      have h : rX10_solveWords_b0 F k n (rX10_solveWords_go F k n k') c s l0A l1A l2I l3I l4I s0I S Φ := by
        rw [rX10_solveWords_go, if_pos (rfl : (0 : Nat) = 0)] at h
        exact h
      unfold rX10_solveWords_b0 at h
      refine wk_istore C (lv' := [some (.ref l0A), some (.ref l1A), some (.int l2I), some (.int l3I), some (.int l4I), some (.int s0I), none, none]) dX10_solveWords_32 (by decide) rfl ?_
      refine wk_iload_n C dX10_solveWords_34 rfl rfl ?_
      refine wk_iload C dX10_solveWords_35 rfl ?_
      refine wk_icmp_ge C (tgt := 59) dX10_solveWords_37 (by decide) (fun c1 => ?_) (fun c1 => ?_)
      · rw [if_pos c1] at h
        refine wk_iconst C (v := 0) dX10_solveWords_59 (by decide) ?_
        refine wk_istore C (lv' := [some (.ref l0A), some (.ref l1A), some (.int l2I), some (.int l3I), some (.int l4I), some (.int s0I), some (.int (0 : Int32)), none]) dX10_solveWords_60 (by decide) rfl ?_
        refine wk_aload_n C dX10_solveWords_62 rfl rfl ?_
        refine wk_iload C dX10_solveWords_63 rfl ?_
        refine wk_iload C dX10_solveWords_65 rfl ?_
        refine wk_callV C hR (As := [.int (0 : Int32), .int s0I]) (cnt := 2) (tX3_tell (l := l) hW hl1A h) rfl (wkGoodV (List.mem_of_getElem? (i := 1) rfl) (List.mem_of_getElem? (i := 2) rfl) (List.mem_of_getElem? (i := 3) rfl) (List.mem_of_getElem? (i := 4) rfl) hbX10_solveWords_X3_tell gdX3_tell) (Nat.le_trans (by decide : 0 + 1 ≤ 4) hd) (by decide) hl1A.1 (fun cy => wAt_3 cy _ hl1A.2) rfl ⟨by decide, by decide, by decide +kernel⟩ rfl rfl (Nat.le_of_ble_eq_true rfl) hc hs dX10_solveWords_67 (fun v' S3 hp => ?_)
        obtain ⟨v2, rfl, h, hWS3, hXS3⟩ := hp
        refine wk_iload C dX10_solveWords_70 rfl ?_
        refine wk_if_eq C (tgt := 91) dX10_solveWords_72 (by decide) (fun _ => ?_) (fun c => False.elim (by revert c; decide))
        refine wk_iload_n C dX10_solveWords_91 rfl rfl ?_
        refine wk_iload C dX10_solveWords_92 rfl ?_
        refine wk_icmp_ge C (tgt := 132) dX10_solveWords_94 (by decide) (fun c7 => ?_) (fun c7 => ?_)
        · rw [if_pos c7] at h
          exact E _ _ _ _ _ hc hs dX10_solveWords_132 ⟨(), rfl, h, hWS3, (wkExt.tr hE hXS3)⟩
        · rw [if_neg c7] at h
          refine wk_iconst C (v := 1) dX10_solveWords_97 (by decide) ?_
          refine wk_istore C (lv' := [some (.ref l0A), some (.ref l1A), some (.int l2I), some (.int l3I), some (.int l4I), some (.int s0I), some (.int (0 : Int32)), some (.int (1 : Int32))]) dX10_solveWords_98 (by decide) rfl ?_
          exact wk_forget (lv' := [some (.ref l0A), some (.ref l1A), none, none, some (.int l4I), none, none, some (.int (1 : Int32))]) (wkLs.le ⟨rfl, rfl, rfl, rfl, trivial⟩) (ih.2 _ _ hc hs _ _ _ _ _ hWS3 (wkExt.tr hE hXS3) (hXS3 _ _ hl0A) (hXS3 _ _ hl1A) h)
      · rw [if_neg c1] at h
        refine wk_iload_n C dX10_solveWords_40 rfl rfl ?_
        refine wk_iload C dX10_solveWords_41 rfl ?_
        refine wk_icmp_ge C (tgt := 59) dX10_solveWords_43 (by decide) (fun c8 => ?_) (fun c8 => ?_)
        · rw [if_pos c8] at h
          refine wk_iconst C (v := 0) dX10_solveWords_59 (by decide) ?_
          refine wk_istore C (lv' := [some (.ref l0A), some (.ref l1A), some (.int l2I), some (.int l3I), some (.int l4I), some (.int s0I), some (.int (0 : Int32)), none]) dX10_solveWords_60 (by decide) rfl ?_
          refine wk_aload_n C dX10_solveWords_62 rfl rfl ?_
          refine wk_iload C dX10_solveWords_63 rfl ?_
          refine wk_iload C dX10_solveWords_65 rfl ?_
          refine wk_callV C hR (As := [.int (0 : Int32), .int s0I]) (cnt := 2) (tX3_tell (l := l) hW hl1A h) rfl (wkGoodV (List.mem_of_getElem? (i := 1) rfl) (List.mem_of_getElem? (i := 2) rfl) (List.mem_of_getElem? (i := 3) rfl) (List.mem_of_getElem? (i := 4) rfl) hbX10_solveWords_X3_tell gdX3_tell) (Nat.le_trans (by decide : 0 + 1 ≤ 4) hd) (by decide) hl1A.1 (fun cy => wAt_3 cy _ hl1A.2) rfl ⟨by decide, by decide, by decide +kernel⟩ rfl rfl (Nat.le_of_ble_eq_true rfl) hc hs dX10_solveWords_67 (fun v' S10 hp => ?_)
          obtain ⟨v9, rfl, h, hWS10, hXS10⟩ := hp
          refine wk_iload C dX10_solveWords_70 rfl ?_
          refine wk_if_eq C (tgt := 91) dX10_solveWords_72 (by decide) (fun _ => ?_) (fun c => False.elim (by revert c; decide))
          refine wk_iload_n C dX10_solveWords_91 rfl rfl ?_
          refine wk_iload C dX10_solveWords_92 rfl ?_
          refine wk_icmp_ge C (tgt := 132) dX10_solveWords_94 (by decide) (fun c14 => ?_) (fun c14 => ?_)
          · rw [if_pos c14] at h
            exact E _ _ _ _ _ hc hs dX10_solveWords_132 ⟨(), rfl, h, hWS10, (wkExt.tr hE hXS10)⟩
          · rw [if_neg c14] at h
            refine wk_iconst C (v := 1) dX10_solveWords_97 (by decide) ?_
            refine wk_istore C (lv' := [some (.ref l0A), some (.ref l1A), some (.int l2I), some (.int l3I), some (.int l4I), some (.int s0I), some (.int (0 : Int32)), some (.int (1 : Int32))]) dX10_solveWords_98 (by decide) rfl ?_
            exact wk_forget (lv' := [some (.ref l0A), some (.ref l1A), none, none, some (.int l4I), none, none, some (.int (1 : Int32))]) (wkLs.le ⟨rfl, rfl, rfl, rfl, trivial⟩) (ih.2 _ _ hc hs _ _ _ _ _ hWS10 (wkExt.tr hE hXS10) (hXS10 _ _ hl0A) (hXS10 _ _ hl1A) h)
        · rw [if_neg c8] at h
          refine wk_aload_n C dX10_solveWords_46 rfl rfl ?_
          refine wk_get C huX10_solveWords_10 hl0A.1 (fun cy => wAt_10 cy _ hl0A.2) rfl 7 (by decide) (List.mem_of_getElem? (i := 5) rfl) rfl (congrArg some (congrArg va_rf (wf_Words_steps hW hl0A).1)) dX10_solveWords_47 ?_
          refine wk_iload_n C dX10_solveWords_50 rfl rfl ?_
          obtain ⟨i15, h⟩ := h
          refine wk_iald C (wf_Words_steps hW hl0A).2.1 (wf_Words_steps hW hl0A).2.2 i15 rfl dX10_solveWords_51 ?_
          refine wk_if_lt C (tgt := 59) dX10_solveWords_52 (by decide) (fun c16 => ?_) (fun c16 => ?_)
          · rw [if_pos c16] at h
            refine wk_iconst C (v := 0) dX10_solveWords_59 (by decide) ?_
            refine wk_istore C (lv' := [some (.ref l0A), some (.ref l1A), some (.int l2I), some (.int l3I), some (.int l4I), some (.int s0I), some (.int (0 : Int32)), none]) dX10_solveWords_60 (by decide) rfl ?_
            refine wk_aload_n C dX10_solveWords_62 rfl rfl ?_
            refine wk_iload C dX10_solveWords_63 rfl ?_
            refine wk_iload C dX10_solveWords_65 rfl ?_
            refine wk_callV C hR (As := [.int (0 : Int32), .int s0I]) (cnt := 2) (tX3_tell (l := l) hW hl1A h) rfl (wkGoodV (List.mem_of_getElem? (i := 1) rfl) (List.mem_of_getElem? (i := 2) rfl) (List.mem_of_getElem? (i := 3) rfl) (List.mem_of_getElem? (i := 4) rfl) hbX10_solveWords_X3_tell gdX3_tell) (Nat.le_trans (by decide : 0 + 1 ≤ 4) hd) (by decide) hl1A.1 (fun cy => wAt_3 cy _ hl1A.2) rfl ⟨by decide, by decide, by decide +kernel⟩ rfl rfl (Nat.le_of_ble_eq_true rfl) hc hs dX10_solveWords_67 (fun v' S18 hp => ?_)
            obtain ⟨v17, rfl, h, hWS18, hXS18⟩ := hp
            refine wk_iload C dX10_solveWords_70 rfl ?_
            refine wk_if_eq C (tgt := 91) dX10_solveWords_72 (by decide) (fun _ => ?_) (fun c => False.elim (by revert c; decide))
            refine wk_iload_n C dX10_solveWords_91 rfl rfl ?_
            refine wk_iload C dX10_solveWords_92 rfl ?_
            refine wk_icmp_ge C (tgt := 132) dX10_solveWords_94 (by decide) (fun c22 => ?_) (fun c22 => ?_)
            · rw [if_pos c22] at h
              exact E _ _ _ _ _ hc hs dX10_solveWords_132 ⟨(), rfl, h, hWS18, (wkExt.tr hE hXS18)⟩
            · rw [if_neg c22] at h
              refine wk_iconst C (v := 1) dX10_solveWords_97 (by decide) ?_
              refine wk_istore C (lv' := [some (.ref l0A), some (.ref l1A), some (.int l2I), some (.int l3I), some (.int l4I), some (.int s0I), some (.int (0 : Int32)), some (.int (1 : Int32))]) dX10_solveWords_98 (by decide) rfl ?_
              exact wk_forget (lv' := [some (.ref l0A), some (.ref l1A), none, none, some (.int l4I), none, none, some (.int (1 : Int32))]) (wkLs.le ⟨rfl, rfl, rfl, rfl, trivial⟩) (ih.2 _ _ hc hs _ _ _ _ _ hWS18 (wkExt.tr hE hXS18) (hXS18 _ _ hl0A) (hXS18 _ _ hl1A) h)
          · rw [if_neg c16] at h
            refine wk_iconst C (v := 1) dX10_solveWords_55 (by decide) ?_
            refine wk_goto C (tgt := 60) dX10_solveWords_56 (by decide) ?_
            refine wk_istore C (lv' := [some (.ref l0A), some (.ref l1A), some (.int l2I), some (.int l3I), some (.int l4I), some (.int s0I), some (.int (1 : Int32)), none]) dX10_solveWords_60 (by decide) rfl ?_
            refine wk_aload_n C dX10_solveWords_62 rfl rfl ?_
            refine wk_iload C dX10_solveWords_63 rfl ?_
            refine wk_iload C dX10_solveWords_65 rfl ?_
            refine wk_callV C hR (As := [.int (1 : Int32), .int s0I]) (cnt := 2) (tX3_tell (l := l) hW hl1A h) rfl (wkGoodV (List.mem_of_getElem? (i := 1) rfl) (List.mem_of_getElem? (i := 2) rfl) (List.mem_of_getElem? (i := 3) rfl) (List.mem_of_getElem? (i := 4) rfl) hbX10_solveWords_X3_tell gdX3_tell) (Nat.le_trans (by decide : 0 + 1 ≤ 4) hd) (by decide) hl1A.1 (fun cy => wAt_3 cy _ hl1A.2) rfl ⟨by decide, by decide, by decide +kernel⟩ rfl rfl (Nat.le_of_ble_eq_true rfl) hc hs dX10_solveWords_67 (fun v' S24 hp => ?_)
            obtain ⟨v23, rfl, h, hWS24, hXS24⟩ := hp
            refine wk_iload C dX10_solveWords_70 rfl ?_
            refine wk_if_eq C (tgt := 91) dX10_solveWords_72 (by decide) (fun c => False.elim (by revert c; decide)) (fun _ => ?_)
            refine wk_aload_n C dX10_solveWords_75 rfl rfl ?_
            refine wk_aload_n C dX10_solveWords_76 rfl rfl ?_
            refine wk_iload_n C dX10_solveWords_77 rfl rfl ?_
            refine wk_callV C hR (As := [.ref l1A, .int l3I]) (cnt := 2) (tX10_stepFrom (l := l) hWS24 (hXS24 _ _ hl0A) (hXS24 _ _ hl1A) h) rfl (wkGoodV (List.mem_of_getElem? (i := 6) rfl) (List.mem_of_getElem? (i := 7) rfl) (List.mem_of_getElem? (i := 8) rfl) (List.mem_of_getElem? (i := 9) rfl) hbX10_solveWords_X10_stepFrom gdX10_stepFrom) (Nat.le_trans (by decide : 3 + 1 ≤ 4) hd) (by decide) (hXS24 _ _ hl0A).1 (fun cy => wAt_10 cy _ (hXS24 _ _ hl0A).2) rfl ⟨by decide, by decide, by decide +kernel⟩ rfl rfl (Nat.le_of_ble_eq_true rfl) hc hs dX10_solveWords_78 (fun v' S29 hp => ?_)
            obtain ⟨v28, rfl, h, hWS29, hXS29⟩ := hp
            refine wk_pop C dX10_solveWords_81 rfl ?_
            refine wk_aload_n C dX10_solveWords_82 rfl rfl ?_
            refine wk_aload_n C dX10_solveWords_83 rfl rfl ?_
            refine wk_iload_n C dX10_solveWords_84 rfl rfl ?_
            obtain ⟨k36, n37, hk36, hn37, h⟩ := h
            refine wk_callV C hR (As := [.ref l1A, .int l2I]) (cnt := 2) (tX10_writeSteps (l := l) hWS29 (hXS29 _ _ (hXS24 _ _ hl0A)) (hXS29 _ _ (hXS24 _ _ hl1A)) h) rfl (wkGoodV (List.mem_of_getElem? (i := 10) rfl) (List.mem_of_getElem? (i := 11) rfl) (List.mem_of_getElem? (i := 12) rfl) (List.mem_of_getElem? (i := 9) rfl) hbX10_solveWords_X10_writeSteps gdX10_writeSteps) (Nat.le_trans (by decide : 3 + 1 ≤ 4) hd) (by decide) (hXS29 _ _ (hXS24 _ _ hl0A)).1 (fun cy => wAt_10 cy _ (hXS29 _ _ (hXS24 _ _ hl0A)).2) rfl ⟨by decide, by decide, by decide +kernel⟩ rfl rfl (Nat.le_of_ble_eq_true rfl) hk36 hn37 dX10_solveWords_85 (fun v' S34 hp => ?_)
            obtain ⟨v33, rfl, h, hWS34, hXS34⟩ := hp
            refine wk_goto C (tgt := 132) dX10_solveWords_88 (by decide) ?_
            exact E _ _ _ _ _ hk36 hn37 dX10_solveWords_132 ⟨(), rfl, h, hWS34, (wkExt.tr (wkExt.tr (wkExt.tr hE hXS24) hXS29) hXS34)⟩
    · intro c s hc hs l0A l1A l4I l7I S hW hE hl0A hl1A h
      have h : rX10_solveWords_b1 F k n (rX10_solveWords_go F k n k') c s l0A l1A l4I l7I S Φ := by
        rw [rX10_solveWords_go, if_neg (show ¬ (1 : Nat) = 0 by decide), if_pos (rfl : (1 : Nat) = 1)] at h
        exact h
      unfold rX10_solveWords_b1 at h
      refine wk_iload C dX10_solveWords_100 rfl ?_
      refine wk_iload C dX10_solveWords_102 rfl ?_
      refine wk_icmp_ge C (tgt := 132) dX10_solveWords_104 (by decide) (fun c38 => ?_) (fun c38 => ?_)
      · rw [if_pos c38] at h
        exact E _ _ _ _ _ hc hs dX10_solveWords_132 ⟨(), rfl, h, hW, hE⟩
      · rw [if_neg c38] at h
        refine wk_aload_n C dX10_solveWords_107 rfl rfl ?_
        refine wk_get C huX10_solveWords_10 hl0A.1 (fun cy => wAt_10 cy _ hl0A.2) rfl 7 (by decide) (List.mem_of_getElem? (i := 5) rfl) rfl (congrArg some (congrArg va_rf (wf_Words_steps hW hl0A).1)) dX10_solveWords_108 ?_
        refine wk_iload C dX10_solveWords_111 rfl ?_
        obtain ⟨i39, h⟩ := h
        refine wk_iald C (wf_Words_steps hW hl0A).2.1 (wf_Words_steps hW hl0A).2.2 i39 rfl dX10_solveWords_113 ?_
        refine wk_if_lt C (tgt := 126) dX10_solveWords_114 (by decide) (fun c40 => ?_) (fun c40 => ?_)
        · rw [if_pos c40] at h
          obtain ⟨x41, ex41, h⟩ := wkLt_some h
          refine wk_iinc C (lv' := [some (.ref l0A), some (.ref l1A), none, none, some (.int l4I), none, none, some (.int x41)]) dX10_solveWords_126 rfl (by rw [ex41]; rfl) (by decide) rfl ?_
          refine wk_goto C (tgt := 100) dX10_solveWords_129 (by decide) ?_
          exact wk_forget (lv' := [some (.ref l0A), some (.ref l1A), none, none, some (.int l4I), none, none, some (.int x41)]) (wkLs.le ⟨rfl, rfl, rfl, rfl, trivial⟩) (ih.2 _ _ hc hs _ _ _ _ _ hW hE hl0A hl1A h)
        · rw [if_neg c40] at h
          refine wk_aload_n C dX10_solveWords_117 rfl rfl ?_
          refine wk_get C huX10_solveWords_3 hl1A.1 (fun cy => wAt_3 cy _ hl1A.2) rfl 13 (by decide) (List.mem_of_getElem? (i := 13) rfl) rfl (congrArg some (congrArg va_rf (wf_Entry_row hW hl1A).1)) dX10_solveWords_118 ?_
          refine wk_iload C dX10_solveWords_121 rfl ?_
          obtain ⟨k45, n46, hk45, hn46, h⟩ := h
          refine wk_callV C hR (As := [.int l7I]) (cnt := 1) (tX9_add (l := l) hW (wf_Entry_row hW hl1A).2 h) rfl (wkGoodV (List.mem_of_getElem? (i := 14) rfl) (List.mem_of_getElem? (i := 15) rfl) (List.mem_of_getElem? (i := 16) rfl) (List.mem_of_getElem? (i := 17) rfl) hbX10_solveWords_X9_add gdX9_add) (Nat.le_trans (by decide : 2 + 1 ≤ 4) hd) (by decide) (wf_Entry_row hW hl1A).2.1 (fun cy => wAt_9 cy _ (wf_Entry_row hW hl1A).2.2) rfl ⟨by decide, by decide, by decide +kernel⟩ rfl rfl (Nat.le_of_ble_eq_true rfl) hk45 hn46 dX10_solveWords_123 (fun v' S43 hp => ?_)
          obtain ⟨v42, rfl, h, hWS43, hXS43⟩ := hp
          obtain ⟨x47, ex47, h⟩ := wkLt_some h
          refine wk_iinc C (lv' := [some (.ref l0A), some (.ref l1A), none, none, some (.int l4I), none, none, some (.int x47)]) dX10_solveWords_126 rfl (by rw [ex47]; rfl) (by decide) rfl ?_
          refine wk_goto C (tgt := 100) dX10_solveWords_129 (by decide) ?_
          exact wk_forget (lv' := [some (.ref l0A), some (.ref l1A), none, none, some (.int l4I), none, none, some (.int x47)]) (wkLs.le ⟨rfl, rfl, rfl, rfl, trivial⟩) (ih.2 _ _ hk45 hn46 _ _ _ _ _ hWS43 (wkExt.tr hE hXS43) (hXS43 _ _ hl0A) (hXS43 _ _ hl1A) h)
set_option maxHeartbeats 4000000 in
set_option maxRecDepth 100000 in
theorem tX10_solveWords {l : Launch} {g : wkG} {F : Nat} {k n : Nat}  {S : wPS} {l0A : Nat} {l1A : Nat} {Φ : (Unit → wPS → Prop)} (hW : wkWF S) (hl0A : wkIs S l0A 10) (hl1A : wkIs S l1A 3) (h : rX10_solveWords F k n l0A l1A S Φ) : wkMet l g yX10_solveWords wvX10_solveWords 4 k n [.ref l0A, .ref l1A] S (fun v' S'' => ∃ v : Unit, v' = none ∧ Φ v S'' ∧ wkWF S'' ∧ wkExt S S'') := by
  refine wkMet_of (ret := none) (by decide) rfl (Nat.le_of_ble_eq_true rfl) (fun X hg C hR E => ?_)
  subst hg
  have hE : wkExt S S := wkExt.rf
  have hd : 4 ≤ 4 := Nat.le_refl _
  show wkGo l X 8 0 0 0 S [some (.ref l0A), some (.ref l1A), none, none, none, none, none, none] []
  have ih := tX10_solveWords_go (F := F) C hR hd E F
  have h : rX10_solveWords_s F k n (rX10_solveWords_go F k n F) l0A l1A S Φ := h
  unfold rX10_solveWords_s at h
  refine wk_aload_n C dX10_solveWords_0 rfl rfl ?_
  refine wk_callW C hR (As := [.ref l1A]) (cnt := 1) (tX10_firstWord (l := l) hW hl1A h) rfl (wkGoodW (List.mem_of_getElem? (i := 18) rfl) (List.mem_of_getElem? (i := 19) rfl) (List.mem_of_getElem? (i := 9) rfl) hbX10_solveWords_X10_firstWord gdX10_firstWord) (Nat.le_trans (by decide : 1 + 1 ≤ 4) hd) (by decide) ⟨by decide, by decide, by decide +kernel⟩ rfl rfl (Nat.le_of_ble_eq_true rfl) (Nat.zero_le _) (Nat.zero_le _) dX10_solveWords_1 (fun v' S49 hp => ?_)
  obtain ⟨v48, rfl, h, hWS49, hXS49⟩ := hp
  refine wk_istore_n C (lv' := [some (.ref l0A), some (.ref l1A), some (.int v48), none, none, none, none, none]) dX10_solveWords_4 rfl (by decide) rfl ?_
  refine wk_aload_n C dX10_solveWords_5 rfl rfl ?_
  refine wk_callW C hR (As := [.ref l1A]) (cnt := 1) (tX10_secondWord (l := l) hWS49 (hXS49 _ _ hl1A) h) rfl (wkGoodW (List.mem_of_getElem? (i := 20) rfl) (List.mem_of_getElem? (i := 21) rfl) (List.mem_of_getElem? (i := 9) rfl) hbX10_solveWords_X10_secondWord gdX10_secondWord) (Nat.le_trans (by decide : 1 + 1 ≤ 4) hd) (by decide) ⟨by decide, by decide, by decide +kernel⟩ rfl rfl (Nat.le_of_ble_eq_true rfl) (Nat.zero_le _) (Nat.zero_le _) dX10_solveWords_6 (fun v' S54 hp => ?_)
  obtain ⟨v53, rfl, h, hWS54, hXS54⟩ := hp
  refine wk_istore_n C (lv' := [some (.ref l0A), some (.ref l1A), some (.int v48), some (.int v53), none, none, none, none]) dX10_solveWords_9 rfl (by decide) rfl ?_
  refine wk_aload_n C dX10_solveWords_10 rfl rfl ?_
  refine wk_callW C hR (As := [.ref l1A]) (cnt := 1) (tX10_beyondWords (l := l) hWS54 (hXS54 _ _ (hXS49 _ _ hl1A)) h) rfl (wkGoodW (List.mem_of_getElem? (i := 22) rfl) (List.mem_of_getElem? (i := 23) rfl) (List.mem_of_getElem? (i := 9) rfl) hbX10_solveWords_X10_beyondWords gdX10_beyondWords) (Nat.le_trans (by decide : 0 + 1 ≤ 4) hd) (by decide) ⟨by decide, by decide, by decide +kernel⟩ rfl rfl (Nat.le_of_ble_eq_true rfl) (Nat.zero_le _) (Nat.zero_le _) dX10_solveWords_11 (fun v' S59 hp => ?_)
  obtain ⟨v58, rfl, h, hWS59, hXS59⟩ := hp
  refine wk_istore C (lv' := [some (.ref l0A), some (.ref l1A), some (.int v48), some (.int v53), some (.int v58), none, none, none]) dX10_solveWords_14 (by decide) rfl ?_
  refine wk_iload_n C dX10_solveWords_16 rfl rfl ?_
  refine wk_iload C dX10_solveWords_17 rfl ?_
  refine wk_icmp_ge C (tgt := 31) dX10_solveWords_19 (by decide) (fun c63 => ?_) (fun c63 => ?_)
  · rw [if_pos c63] at h
    refine wk_iconst C (v := 0) dX10_solveWords_31 (by decide) ?_
    exact wk_forget (lv' := [some (.ref l0A), some (.ref l1A), some (.int v48), some (.int v53), some (.int v58), none, none, none]) (wkLs.le ⟨rfl, rfl, rfl, rfl, rfl, trivial⟩) (ih.1 _ _ (Nat.zero_le _) (Nat.zero_le _) _ _ _ _ _ _ _ hWS59 (wkExt.tr (wkExt.tr (wkExt.tr hE hXS49) hXS54) hXS59) (hXS59 _ _ (hXS54 _ _ (hXS49 _ _ hl0A))) (hXS59 _ _ (hXS54 _ _ (hXS49 _ _ hl1A))) h)
  · rw [if_neg c63] at h
    refine wk_aload_n C dX10_solveWords_22 rfl rfl ?_
    refine wk_aload_n C dX10_solveWords_23 rfl rfl ?_
    refine wk_iload_n C dX10_solveWords_24 rfl rfl ?_
    refine wk_callV C hR (As := [.ref l1A, .int v48]) (cnt := 2) (tX10_stepFrom (l := l) hWS59 (hXS59 _ _ (hXS54 _ _ (hXS49 _ _ hl0A))) (hXS59 _ _ (hXS54 _ _ (hXS49 _ _ hl1A))) h) rfl (wkGoodV (List.mem_of_getElem? (i := 6) rfl) (List.mem_of_getElem? (i := 7) rfl) (List.mem_of_getElem? (i := 8) rfl) (List.mem_of_getElem? (i := 9) rfl) hbX10_solveWords_X10_stepFrom gdX10_stepFrom) (Nat.le_trans (by decide : 3 + 1 ≤ 4) hd) (by decide) (hXS59 _ _ (hXS54 _ _ (hXS49 _ _ hl0A))).1 (fun cy => wAt_10 cy _ (hXS59 _ _ (hXS54 _ _ (hXS49 _ _ hl0A))).2) rfl ⟨by decide, by decide, by decide +kernel⟩ rfl rfl (Nat.le_of_ble_eq_true rfl) (Nat.zero_le _) (Nat.zero_le _) dX10_solveWords_25 (fun v' S65 hp => ?_)
    obtain ⟨v64, rfl, h, hWS65, hXS65⟩ := hp
    refine wk_goto C (tgt := 32) dX10_solveWords_28 (by decide) ?_
    exact wk_forget (lv' := [some (.ref l0A), some (.ref l1A), some (.int v48), some (.int v53), some (.int v58), none, none, none]) (wkLs.le ⟨rfl, rfl, rfl, rfl, rfl, trivial⟩) (ih.1 _ _ (Nat.zero_le _) (Nat.zero_le _) _ _ _ _ _ _ _ hWS65 (wkExt.tr (wkExt.tr (wkExt.tr (wkExt.tr hE hXS49) hXS54) hXS59) hXS65) (hXS65 _ _ (hXS59 _ _ (hXS54 _ _ (hXS49 _ _ hl0A)))) (hXS65 _ _ (hXS59 _ _ (hXS54 _ _ (hXS49 _ _ hl1A)))) h)
