def wvX8_solvePrimes : List Cond := .code yX8_solvePrimes cX8_solvePrimes 4 none :: (([.fieldLink RX8 74 "Witnessworks$Entry" "boundNow" "I", .methodLink RX8 138 yX8_leastDivisor, .static yX8_leastDivisor, .initialized RX8, .methodLink RX8 40 yX3_tell, .instanceMethod yX3_tell, .selects RX3 yX3_tell yX3_tell, .initialized RX3, .fieldLink RX8 54 "Witnessworks$Entry" "row" "LWitnessworks$Row;", .methodLink RX8 58 yX9_add, .instanceMethod yX9_add, .selects RX9 yX9_add yX9_add, .initialized RX9, .methodLink RX8 141 yX8_writePrime, .static yX8_writePrime] : List Cond) ++ ((wsX30) ++ (wvX8_leastDivisor ++ (wvX3_tell ++ (wvX9_add ++ (wvX8_writePrime))))))
theorem huX8_solvePrimes_3 : ∀ w ∈ u_ws RX3 TX3 17, w ∈ wvX8_solvePrimes := fun w h => List.mem_cons_of_mem _ (List.mem_append_right _ (List.mem_append_left _ h))
theorem hbX8_solvePrimes_X8_leastDivisor : ∀ w ∈ wvX8_leastDivisor, w ∈ wvX8_solvePrimes := fun w h => List.mem_cons_of_mem _ (List.mem_append_right _ (List.mem_append_right _ (List.mem_append_left _ h)))
theorem hbX8_solvePrimes_X3_tell : ∀ w ∈ wvX3_tell, w ∈ wvX8_solvePrimes := fun w h => List.mem_cons_of_mem _ (List.mem_append_right _ (List.mem_append_right _ (List.mem_append_right _ (List.mem_append_left _ h))))
theorem hbX8_solvePrimes_X9_add : ∀ w ∈ wvX9_add, w ∈ wvX8_solvePrimes := fun w h => List.mem_cons_of_mem _ (List.mem_append_right _ (List.mem_append_right _ (List.mem_append_right _ (List.mem_append_right _ (List.mem_append_left _ h)))))
theorem hbX8_solvePrimes_X8_writePrime : ∀ w ∈ wvX8_writePrime, w ∈ wvX8_solvePrimes := fun w h => List.mem_cons_of_mem _ (List.mem_append_right _ (List.mem_append_right _ (List.mem_append_right _ (List.mem_append_right _ (List.mem_append_right _ h)))))
theorem gdX8_solvePrimes : ∀ w ∈ wvX8_solvePrimes, wkGd w := wkGdC rfl (wkGdA (wkGdL (by decide +kernel)) (wkGdA gdX3 (wkGdA gdX8_leastDivisor (wkGdA gdX3_tell (wkGdA gdX9_add gdX8_writePrime)))))
def rX8_solvePrimes (F : Nat) (k n : Nat) (l0A : Nat) (l1A : Nat) (S : wPS) (Φ : (Unit → wPS → Prop)) : Prop :=
  wkLt ((gEntry_boundNow S l1A)) fun x1 => rX8_leastDivisor F x1 S fun v2 S3 => if v2 = x1 then (rX3_tell F l1A (1 : Int32) v2 S3 fun v30 S31 => if v2 = x1 then (∃ k50 n51 : Nat, 0 + k50 ≤ k ∧ 0 + n51 ≤ n ∧ rX8_writePrime F 48 k50 n51 x1 (wkAd (gEntry_row S31 l1A)) (0 : Int32) S31 fun v47 S48 => Φ () S48) else (∃ k39 n40 : Nat, 0 + k39 ≤ k ∧ 0 + n40 ≤ n ∧ rX9_add F k39 n40 (wkAd (gEntry_row S31 l1A)) v2 S31 fun v36 S37 => ¬ v2 = 0 ∧ ∃ k45 n46 : Nat, (0 + k39) + k45 ≤ k ∧ (0 + n40) + n46 ≤ n ∧ rX9_add F k45 n46 (wkAd (gEntry_row S37 l1A)) (x1 / v2) S37 fun v42 S43 => Φ () S43)) else (rX3_tell F l1A (0 : Int32) v2 S3 fun v8 S9 => if v2 = x1 then (∃ k28 n29 : Nat, 0 + k28 ≤ k ∧ 0 + n29 ≤ n ∧ rX8_writePrime F 48 k28 n29 x1 (wkAd (gEntry_row S9 l1A)) (0 : Int32) S9 fun v25 S26 => Φ () S26) else (∃ k17 n18 : Nat, 0 + k17 ≤ k ∧ 0 + n18 ≤ n ∧ rX9_add F k17 n18 (wkAd (gEntry_row S9 l1A)) v2 S9 fun v14 S15 => ¬ v2 = 0 ∧ ∃ k23 n24 : Nat, (0 + k17) + k23 ≤ k ∧ (0 + n18) + n24 ≤ n ∧ rX9_add F k23 n24 (wkAd (gEntry_row S15 l1A)) (x1 / v2) S15 fun v20 S21 => Φ () S21))
set_option maxHeartbeats 4000000 in
set_option maxRecDepth 100000 in
theorem tX8_solvePrimes {l : Launch} {g : wkG} {F : Nat} {k n : Nat}  {S : wPS} {l0A : Nat} {l1A : Nat} {Φ : (Unit → wPS → Prop)} (hW : wkWF S) (hl0A : wkIs S l0A 8) (hl1A : wkIs S l1A 3) (h : rX8_solvePrimes F k n l0A l1A S Φ) : wkMet l g yX8_solvePrimes wvX8_solvePrimes 52 k n [.ref l0A, .ref l1A] S (fun v' S'' => ∃ v : Unit, v' = none ∧ Φ v S'' ∧ wkWF S'' ∧ wkExt S S'') := by
  refine wkMet_of (ret := none) (by decide) rfl (Nat.le_of_ble_eq_true rfl) (fun X hg C hR E => ?_)
  subst hg
  have hE : wkExt S S := wkExt.rf
  have hd : 52 ≤ 52 := Nat.le_refl _
  show wkGo l X 4 0 0 0 S [some (.ref l0A), some (.ref l1A), none, none] []
  unfold rX8_solvePrimes at h
  refine wk_aload_n C dX8_solvePrimes_0 rfl rfl ?_
  refine wk_get C (v := .int (gEntry_boundNow S l1A)) huX8_solvePrimes_3 hl1A.1 (fun cy => wAt_3 cy _ hl1A.2) rfl 8 (by decide) (List.mem_of_getElem? (i := 1) rfl) rfl rfl dX8_solvePrimes_1 ?_
  obtain ⟨x1, ex1, h⟩ := wkLt_some h
  refine wk_topi ex1 ?_
  refine wk_istore_n C (lv' := [some (.ref l0A), some (.ref l1A), some (.int x1), none]) dX8_solvePrimes_4 rfl (by decide) rfl ?_
  refine wk_iload_n C dX8_solvePrimes_5 rfl rfl ?_
  refine wk_callW C hR (As := [.int x1]) (cnt := 1) (tX8_leastDivisor (l := l) hW  h) rfl (wkGoodW (List.mem_of_getElem? (i := 2) rfl) (List.mem_of_getElem? (i := 3) rfl) (List.mem_of_getElem? (i := 4) rfl) hbX8_solvePrimes_X8_leastDivisor gdX8_leastDivisor) (Nat.le_trans (by decide : 0 + 1 ≤ 52) hd) (by decide) ⟨by decide, by decide, by decide +kernel⟩ rfl rfl (Nat.le_of_ble_eq_true rfl) (Nat.zero_le _) (Nat.zero_le _) dX8_solvePrimes_6 (fun v' S3 hp => ?_)
  obtain ⟨v2, rfl, h, hWS3, hXS3⟩ := hp
  refine wk_istore_n C (lv' := [some (.ref l0A), some (.ref l1A), some (.int x1), some (.int v2)]) dX8_solvePrimes_9 rfl (by decide) rfl ?_
  refine wk_aload_n C dX8_solvePrimes_10 rfl rfl ?_
  refine wk_iload_n C dX8_solvePrimes_11 rfl rfl ?_
  refine wk_iload_n C dX8_solvePrimes_12 rfl rfl ?_
  refine wk_icmp_ne C (tgt := 20) dX8_solvePrimes_13 (by decide) (fun c7 => ?_) (fun c7 => ?_)
  · rw [if_neg c7] at h
    refine wk_iconst C (v := 0) dX8_solvePrimes_20 (by decide) ?_
    refine wk_iload_n C dX8_solvePrimes_21 rfl rfl ?_
    refine wk_callV C hR (As := [.int (0 : Int32), .int v2]) (cnt := 2) (tX3_tell (l := l) hWS3 (hXS3 _ _ hl1A) h) rfl (wkGoodV (List.mem_of_getElem? (i := 5) rfl) (List.mem_of_getElem? (i := 6) rfl) (List.mem_of_getElem? (i := 7) rfl) (List.mem_of_getElem? (i := 8) rfl) hbX8_solvePrimes_X3_tell gdX3_tell) (Nat.le_trans (by decide : 0 + 1 ≤ 52) hd) (by decide) (hXS3 _ _ hl1A).1 (fun cy => wAt_3 cy _ (hXS3 _ _ hl1A).2) rfl ⟨by decide, by decide, by decide +kernel⟩ rfl rfl (Nat.le_of_ble_eq_true rfl) (Nat.zero_le _) (Nat.zero_le _) dX8_solvePrimes_22 (fun v' S9 hp => ?_)
    obtain ⟨v8, rfl, h, hWS9, hXS9⟩ := hp
    refine wk_iload_n C dX8_solvePrimes_25 rfl rfl ?_
    refine wk_iload_n C dX8_solvePrimes_26 rfl rfl ?_
    refine wk_icmp_ne C (tgt := 42) dX8_solvePrimes_27 (by decide) (fun c13 => ?_) (fun c13 => ?_)
    · rw [if_neg c13] at h
      refine wk_aload_n C dX8_solvePrimes_42 rfl rfl ?_
      refine wk_get C huX8_solvePrimes_3 (hXS9 _ _ (hXS3 _ _ hl1A)).1 (fun cy => wAt_3 cy _ (hXS9 _ _ (hXS3 _ _ hl1A)).2) rfl 13 (by decide) (List.mem_of_getElem? (i := 9) rfl) rfl (congrArg some (congrArg va_rf (wf_Entry_row hWS9 (hXS9 _ _ (hXS3 _ _ hl1A))).1)) dX8_solvePrimes_43 ?_
      refine wk_iload_n C dX8_solvePrimes_46 rfl rfl ?_
      obtain ⟨k17, n18, hk17, hn18, h⟩ := h
      refine wk_callV C hR (As := [.int v2]) (cnt := 1) (tX9_add (l := l) hWS9 (wf_Entry_row hWS9 (hXS9 _ _ (hXS3 _ _ hl1A))).2 h) rfl (wkGoodV (List.mem_of_getElem? (i := 10) rfl) (List.mem_of_getElem? (i := 11) rfl) (List.mem_of_getElem? (i := 12) rfl) (List.mem_of_getElem? (i := 13) rfl) hbX8_solvePrimes_X9_add gdX9_add) (Nat.le_trans (by decide : 2 + 1 ≤ 52) hd) (by decide) (wf_Entry_row hWS9 (hXS9 _ _ (hXS3 _ _ hl1A))).2.1 (fun cy => wAt_9 cy _ (wf_Entry_row hWS9 (hXS9 _ _ (hXS3 _ _ hl1A))).2.2) rfl ⟨by decide, by decide, by decide +kernel⟩ rfl rfl (Nat.le_of_ble_eq_true rfl) hk17 hn18 dX8_solvePrimes_47 (fun v' S15 hp => ?_)
      obtain ⟨v14, rfl, h, hWS15, hXS15⟩ := hp
      refine wk_aload_n C dX8_solvePrimes_50 rfl rfl ?_
      refine wk_get C huX8_solvePrimes_3 (hXS15 _ _ (hXS9 _ _ (hXS3 _ _ hl1A))).1 (fun cy => wAt_3 cy _ (hXS15 _ _ (hXS9 _ _ (hXS3 _ _ hl1A))).2) rfl 13 (by decide) (List.mem_of_getElem? (i := 9) rfl) rfl (congrArg some (congrArg va_rf (wf_Entry_row hWS15 (hXS15 _ _ (hXS9 _ _ (hXS3 _ _ hl1A)))).1)) dX8_solvePrimes_51 ?_
      refine wk_iload_n C dX8_solvePrimes_54 rfl rfl ?_
      refine wk_iload_n C dX8_solvePrimes_55 rfl rfl ?_
      obtain ⟨z19, h⟩ := h
      refine wk_idiv C dX8_solvePrimes_56 z19 rfl ?_
      obtain ⟨k23, n24, hk23, hn24, h⟩ := h
      refine wk_callV C hR (As := [.int (x1 / v2)]) (cnt := 1) (tX9_add (l := l) hWS15 (wf_Entry_row hWS15 (hXS15 _ _ (hXS9 _ _ (hXS3 _ _ hl1A)))).2 h) rfl (wkGoodV (List.mem_of_getElem? (i := 10) rfl) (List.mem_of_getElem? (i := 11) rfl) (List.mem_of_getElem? (i := 12) rfl) (List.mem_of_getElem? (i := 13) rfl) hbX8_solvePrimes_X9_add gdX9_add) (Nat.le_trans (by decide : 2 + 1 ≤ 52) hd) (by decide) (wf_Entry_row hWS15 (hXS15 _ _ (hXS9 _ _ (hXS3 _ _ hl1A)))).2.1 (fun cy => wAt_9 cy _ (wf_Entry_row hWS15 (hXS15 _ _ (hXS9 _ _ (hXS3 _ _ hl1A)))).2.2) rfl ⟨by decide, by decide, by decide +kernel⟩ rfl rfl (Nat.le_of_ble_eq_true rfl) hk23 hn24 dX8_solvePrimes_57 (fun v' S21 hp => ?_)
      obtain ⟨v20, rfl, h, hWS21, hXS21⟩ := hp
      exact E _ _ _ _ _ hk23 hn24 dX8_solvePrimes_60 ⟨(), rfl, h, hWS21, (wkExt.tr (wkExt.tr (wkExt.tr (wkExt.tr hE hXS3) hXS9) hXS15) hXS21)⟩
    · rw [if_pos c13] at h
      refine wk_iload_n C dX8_solvePrimes_30 rfl rfl ?_
      refine wk_aload_n C dX8_solvePrimes_31 rfl rfl ?_
      refine wk_get C huX8_solvePrimes_3 (hXS9 _ _ (hXS3 _ _ hl1A)).1 (fun cy => wAt_3 cy _ (hXS9 _ _ (hXS3 _ _ hl1A)).2) rfl 13 (by decide) (List.mem_of_getElem? (i := 9) rfl) rfl (congrArg some (congrArg va_rf (wf_Entry_row hWS9 (hXS9 _ _ (hXS3 _ _ hl1A))).1)) dX8_solvePrimes_32 ?_
      refine wk_iconst C (v := 0) dX8_solvePrimes_35 (by decide) ?_
      obtain ⟨k28, n29, hk28, hn29, h⟩ := h
      refine wk_callW C hR (As := [.int x1, .ref (wkAd (gEntry_row S9 l1A)), .int (0 : Int32)]) (cnt := 3) (tX8_writePrime (l := l) hWS9 (wf_Entry_row hWS9 (hXS9 _ _ (hXS3 _ _ hl1A))).2 h) rfl (wkGoodW (List.mem_of_getElem? (i := 14) rfl) (List.mem_of_getElem? (i := 15) rfl) (List.mem_of_getElem? (i := 4) rfl) hbX8_solvePrimes_X8_writePrime gdX8_writePrime) (Nat.le_trans (by decide : 51 + 1 ≤ 52) hd) (by decide) ⟨by decide, by decide, by decide +kernel⟩ rfl rfl (Nat.le_of_ble_eq_true rfl) hk28 hn29 dX8_solvePrimes_36 (fun v' S26 hp => ?_)
      obtain ⟨v25, rfl, h, hWS26, hXS26⟩ := hp
      refine wk_goto C (tgt := 60) dX8_solvePrimes_39 (by decide) ?_
      exact E _ _ _ _ _ hk28 hn29 dX8_solvePrimes_60 ⟨(), rfl, h, hWS26, (wkExt.tr (wkExt.tr (wkExt.tr hE hXS3) hXS9) hXS26)⟩
  · rw [if_pos c7] at h
    refine wk_iconst C (v := 1) dX8_solvePrimes_16 (by decide) ?_
    refine wk_goto C (tgt := 21) dX8_solvePrimes_17 (by decide) ?_
    refine wk_iload_n C dX8_solvePrimes_21 rfl rfl ?_
    refine wk_callV C hR (As := [.int (1 : Int32), .int v2]) (cnt := 2) (tX3_tell (l := l) hWS3 (hXS3 _ _ hl1A) h) rfl (wkGoodV (List.mem_of_getElem? (i := 5) rfl) (List.mem_of_getElem? (i := 6) rfl) (List.mem_of_getElem? (i := 7) rfl) (List.mem_of_getElem? (i := 8) rfl) hbX8_solvePrimes_X3_tell gdX3_tell) (Nat.le_trans (by decide : 0 + 1 ≤ 52) hd) (by decide) (hXS3 _ _ hl1A).1 (fun cy => wAt_3 cy _ (hXS3 _ _ hl1A).2) rfl ⟨by decide, by decide, by decide +kernel⟩ rfl rfl (Nat.le_of_ble_eq_true rfl) (Nat.zero_le _) (Nat.zero_le _) dX8_solvePrimes_22 (fun v' S31 hp => ?_)
    obtain ⟨v30, rfl, h, hWS31, hXS31⟩ := hp
    refine wk_iload_n C dX8_solvePrimes_25 rfl rfl ?_
    refine wk_iload_n C dX8_solvePrimes_26 rfl rfl ?_
    refine wk_icmp_ne C (tgt := 42) dX8_solvePrimes_27 (by decide) (fun c35 => ?_) (fun c35 => ?_)
    · rw [if_neg c35] at h
      refine wk_aload_n C dX8_solvePrimes_42 rfl rfl ?_
      refine wk_get C huX8_solvePrimes_3 (hXS31 _ _ (hXS3 _ _ hl1A)).1 (fun cy => wAt_3 cy _ (hXS31 _ _ (hXS3 _ _ hl1A)).2) rfl 13 (by decide) (List.mem_of_getElem? (i := 9) rfl) rfl (congrArg some (congrArg va_rf (wf_Entry_row hWS31 (hXS31 _ _ (hXS3 _ _ hl1A))).1)) dX8_solvePrimes_43 ?_
      refine wk_iload_n C dX8_solvePrimes_46 rfl rfl ?_
      obtain ⟨k39, n40, hk39, hn40, h⟩ := h
      refine wk_callV C hR (As := [.int v2]) (cnt := 1) (tX9_add (l := l) hWS31 (wf_Entry_row hWS31 (hXS31 _ _ (hXS3 _ _ hl1A))).2 h) rfl (wkGoodV (List.mem_of_getElem? (i := 10) rfl) (List.mem_of_getElem? (i := 11) rfl) (List.mem_of_getElem? (i := 12) rfl) (List.mem_of_getElem? (i := 13) rfl) hbX8_solvePrimes_X9_add gdX9_add) (Nat.le_trans (by decide : 2 + 1 ≤ 52) hd) (by decide) (wf_Entry_row hWS31 (hXS31 _ _ (hXS3 _ _ hl1A))).2.1 (fun cy => wAt_9 cy _ (wf_Entry_row hWS31 (hXS31 _ _ (hXS3 _ _ hl1A))).2.2) rfl ⟨by decide, by decide, by decide +kernel⟩ rfl rfl (Nat.le_of_ble_eq_true rfl) hk39 hn40 dX8_solvePrimes_47 (fun v' S37 hp => ?_)
      obtain ⟨v36, rfl, h, hWS37, hXS37⟩ := hp
      refine wk_aload_n C dX8_solvePrimes_50 rfl rfl ?_
      refine wk_get C huX8_solvePrimes_3 (hXS37 _ _ (hXS31 _ _ (hXS3 _ _ hl1A))).1 (fun cy => wAt_3 cy _ (hXS37 _ _ (hXS31 _ _ (hXS3 _ _ hl1A))).2) rfl 13 (by decide) (List.mem_of_getElem? (i := 9) rfl) rfl (congrArg some (congrArg va_rf (wf_Entry_row hWS37 (hXS37 _ _ (hXS31 _ _ (hXS3 _ _ hl1A)))).1)) dX8_solvePrimes_51 ?_
      refine wk_iload_n C dX8_solvePrimes_54 rfl rfl ?_
      refine wk_iload_n C dX8_solvePrimes_55 rfl rfl ?_
      obtain ⟨z41, h⟩ := h
      refine wk_idiv C dX8_solvePrimes_56 z41 rfl ?_
      obtain ⟨k45, n46, hk45, hn46, h⟩ := h
      refine wk_callV C hR (As := [.int (x1 / v2)]) (cnt := 1) (tX9_add (l := l) hWS37 (wf_Entry_row hWS37 (hXS37 _ _ (hXS31 _ _ (hXS3 _ _ hl1A)))).2 h) rfl (wkGoodV (List.mem_of_getElem? (i := 10) rfl) (List.mem_of_getElem? (i := 11) rfl) (List.mem_of_getElem? (i := 12) rfl) (List.mem_of_getElem? (i := 13) rfl) hbX8_solvePrimes_X9_add gdX9_add) (Nat.le_trans (by decide : 2 + 1 ≤ 52) hd) (by decide) (wf_Entry_row hWS37 (hXS37 _ _ (hXS31 _ _ (hXS3 _ _ hl1A)))).2.1 (fun cy => wAt_9 cy _ (wf_Entry_row hWS37 (hXS37 _ _ (hXS31 _ _ (hXS3 _ _ hl1A)))).2.2) rfl ⟨by decide, by decide, by decide +kernel⟩ rfl rfl (Nat.le_of_ble_eq_true rfl) hk45 hn46 dX8_solvePrimes_57 (fun v' S43 hp => ?_)
      obtain ⟨v42, rfl, h, hWS43, hXS43⟩ := hp
      exact E _ _ _ _ _ hk45 hn46 dX8_solvePrimes_60 ⟨(), rfl, h, hWS43, (wkExt.tr (wkExt.tr (wkExt.tr (wkExt.tr hE hXS3) hXS31) hXS37) hXS43)⟩
    · rw [if_pos c35] at h
      refine wk_iload_n C dX8_solvePrimes_30 rfl rfl ?_
      refine wk_aload_n C dX8_solvePrimes_31 rfl rfl ?_
      refine wk_get C huX8_solvePrimes_3 (hXS31 _ _ (hXS3 _ _ hl1A)).1 (fun cy => wAt_3 cy _ (hXS31 _ _ (hXS3 _ _ hl1A)).2) rfl 13 (by decide) (List.mem_of_getElem? (i := 9) rfl) rfl (congrArg some (congrArg va_rf (wf_Entry_row hWS31 (hXS31 _ _ (hXS3 _ _ hl1A))).1)) dX8_solvePrimes_32 ?_
      refine wk_iconst C (v := 0) dX8_solvePrimes_35 (by decide) ?_
      obtain ⟨k50, n51, hk50, hn51, h⟩ := h
      refine wk_callW C hR (As := [.int x1, .ref (wkAd (gEntry_row S31 l1A)), .int (0 : Int32)]) (cnt := 3) (tX8_writePrime (l := l) hWS31 (wf_Entry_row hWS31 (hXS31 _ _ (hXS3 _ _ hl1A))).2 h) rfl (wkGoodW (List.mem_of_getElem? (i := 14) rfl) (List.mem_of_getElem? (i := 15) rfl) (List.mem_of_getElem? (i := 4) rfl) hbX8_solvePrimes_X8_writePrime gdX8_writePrime) (Nat.le_trans (by decide : 51 + 1 ≤ 52) hd) (by decide) ⟨by decide, by decide, by decide +kernel⟩ rfl rfl (Nat.le_of_ble_eq_true rfl) hk50 hn51 dX8_solvePrimes_36 (fun v' S48 hp => ?_)
      obtain ⟨v47, rfl, h, hWS48, hXS48⟩ := hp
      refine wk_goto C (tgt := 60) dX8_solvePrimes_39 (by decide) ?_
      exact E _ _ _ _ _ hk50 hn51 dX8_solvePrimes_60 ⟨(), rfl, h, hWS48, (wkExt.tr (wkExt.tr (wkExt.tr hE hXS3) hXS31) hXS48)⟩
def wvX8_buildChain : List Cond := .code yX8_buildChain cX8_buildChain 3 none :: (([.fieldLink RX8 23 "Witnessworks$Numbers" "chain" "[[J", .methodLink RX8 182 yX8_degreeOf, .static yX8_degreeOf, .initialized RX8, .fieldLink RX8 26 "Witnessworks$Numbers" "degrees" "[I", .methodLink RX8 186 yX8_continueChain, .instanceMethod yX8_continueChain, .selects RX8 yX8_continueChain yX8_continueChain, .fieldLink RX8 173 "Witnessworks$Numbers" "chainCount" "I", .methodLink RX8 189 yX8_divideFirst, .instanceMethod yX8_divideFirst, .selects RX8 yX8_divideFirst yX8_divideFirst, .methodLink RX8 77 yX3_at, .instanceMethod yX3_at, .selects RX3 yX3_at yX3_at, .initialized RX3] : List Cond) ++ ((wsX80) ++ (wvX8_degreeOf ++ (wvX8_continueChain ++ (wvX8_divideFirst ++ (wvX3_at))))))
theorem huX8_buildChain_8 : ∀ w ∈ u_ws RX8 TX8 9, w ∈ wvX8_buildChain := fun w h => List.mem_cons_of_mem _ (List.mem_append_right _ (List.mem_append_left _ h))
theorem hbX8_buildChain_X8_degreeOf : ∀ w ∈ wvX8_degreeOf, w ∈ wvX8_buildChain := fun w h => List.mem_cons_of_mem _ (List.mem_append_right _ (List.mem_append_right _ (List.mem_append_left _ h)))
theorem hbX8_buildChain_X8_continueChain : ∀ w ∈ wvX8_continueChain, w ∈ wvX8_buildChain := fun w h => List.mem_cons_of_mem _ (List.mem_append_right _ (List.mem_append_right _ (List.mem_append_right _ (List.mem_append_left _ h))))
theorem hbX8_buildChain_X8_divideFirst : ∀ w ∈ wvX8_divideFirst, w ∈ wvX8_buildChain := fun w h => List.mem_cons_of_mem _ (List.mem_append_right _ (List.mem_append_right _ (List.mem_append_right _ (List.mem_append_right _ (List.mem_append_left _ h)))))
theorem hbX8_buildChain_X3_at : ∀ w ∈ wvX3_at, w ∈ wvX8_buildChain := fun w h => List.mem_cons_of_mem _ (List.mem_append_right _ (List.mem_append_right _ (List.mem_append_right _ (List.mem_append_right _ (List.mem_append_right _ h)))))
theorem gdX8_buildChain : ∀ w ∈ wvX8_buildChain, wkGd w := wkGdC rfl (wkGdA (wkGdL (by decide +kernel)) (wkGdA gdX8 (wkGdA gdX8_degreeOf (wkGdA gdX8_continueChain (wkGdA gdX8_divideFirst gdX3_at)))))
def rX8_buildChain_b0 (F : Nat) (rec : Nat → Nat → Nat → Int32 → wPS → (Unit → wPS → Prop) → Prop) (l0A : Nat) (l1A : Nat) (l2I : Int32) (S : wPS) (Φ : (Unit → wPS → Prop)) : Prop :=
  if (4 : Int32) ≤ l2I then (¬ ((0 : Int32) < 0 ∨ S.len (wkAd (gNumbers_chain S l0A)) ≤ ((0 : Int32)).toNatClampNeg) ∧ rX8_degreeOf F (wkAd (S.rA (wkAd (gNumbers_chain S l0A)) ((0 : Int32)).toNatClampNeg)) S fun v4 S5 => if 0 ≤ v4 then (¬ ((0 : Int32) < 0 ∨ S5.len (wkAd (gNumbers_degrees S5 l0A)) ≤ ((0 : Int32)).toNatClampNeg) ∧ wkLt (wuI S5 (wkAd (gNumbers_degrees S5 l0A)) (0 : Int32) v4) fun S11 => rX8_continueChain F l0A S11 fun v12 S13 => rX8_divideFirst F l0A ((gNumbers_chainCount S13 l0A) - (1 : Int32)) S13 fun v17 S18 => rX8_continueChain F l0A S18 fun v22 S23 => Φ () S23) else (Φ () S5)) else (¬ ((0 : Int32) < 0 ∨ S.len (wkAd (gNumbers_chain S l0A)) ≤ ((0 : Int32)).toNatClampNeg) ∧ rX3_at F l1A (0 : Int32) l2I S fun v29 S30 => ¬ (l2I < 0 ∨ S30.len (wkAd (S.rA (wkAd (gNumbers_chain S l0A)) ((0 : Int32)).toNatClampNeg)) ≤ (l2I).toNatClampNeg) ∧ wkLt (wuJ S30 (wkAd (S.rA (wkAd (gNumbers_chain S l0A)) ((0 : Int32)).toNatClampNeg)) l2I (Int32.toInt64 v29)) fun S35 => wkLt (l2I + (1 : Int32)) fun x36 => rec 0 l0A l1A x36 S35 Φ)
def rX8_buildChain_go (F : Nat) : Nat → Nat → Nat → Nat → Int32 → wPS → (Unit → wPS → Prop) → Prop
  | 0, _, _, _, _, _, _ => False
  | k' + 1, lab, l0A, l1A, l2I, S, Φ => if lab = 0 then rX8_buildChain_b0 F (rX8_buildChain_go F k') l0A l1A l2I S Φ else False
def rX8_buildChain_s (F : Nat) (rec : Nat → Nat → Nat → Int32 → wPS → (Unit → wPS → Prop) → Prop) (l0A : Nat) (l1A : Nat) (S : wPS) (Φ : (Unit → wPS → Prop)) : Prop :=
  wkLt (wu_Numbers_chainCount S l0A (0 : Int32)) fun S37 => rec 0 l0A l1A (0 : Int32) S37 Φ
def rX8_buildChain (F : Nat) (l0A : Nat) (l1A : Nat) (S : wPS) (Φ : (Unit → wPS → Prop)) : Prop := rX8_buildChain_s F (rX8_buildChain_go F F) l0A l1A S Φ
set_option maxHeartbeats 4000000 in
set_option maxRecDepth 100000 in
theorem tX8_buildChain_go {l : Launch} {X : wkX} {d F : Nat} {S0 : wPS} {Φ : (Unit → wPS → Prop)} (C : wkC X cX8_buildChain RX8 3 wvX8_buildChain) (hR : wkRm X d 0 0) (hd : 4 ≤ d) (E : wkEnd l X cX8_buildChain 3 none 0 0 (fun v' S'' => ∃ v : Unit, v' = none ∧ Φ v S'' ∧ wkWF S'' ∧ wkExt S0 S'')) : ∀ k' : Nat, (∀ (l0A : Nat) (l1A : Nat) (l2I : Int32) (S : wPS), wkWF S → wkExt S0 S → wkIs S l0A 8 → wkIs S l1A 3 → rX8_buildChain_go F k' 0 l0A l1A l2I S Φ → wkGo l X 3 0 0 7 S [some (.ref l0A), some (.ref l1A), some (.int l2I)] []) := by
  intro k'
  induction k' with
  | zero => exact fun l0A l1A l2I S hW hE hl0A hl1A h => h.elim
  | succ k' ih =>
    · intro l0A l1A l2I S hW hE hl0A hl1A h
      have h : rX8_buildChain_b0 F (rX8_buildChain_go F k') l0A l1A l2I S Φ := by
        rw [rX8_buildChain_go, if_pos (rfl : (0 : Nat) = 0)] at h
        exact h
      unfold rX8_buildChain_b0 at h
      refine wk_iload_n C dX8_buildChain_7 rfl rfl ?_
      refine wk_iconst C (v := 4) dX8_buildChain_8 (by decide) ?_
      refine wk_icmp_ge C (tgt := 33) dX8_buildChain_9 (by decide) (fun c1 => ?_) (fun c1 => ?_)
      · rw [if_pos c1] at h
        refine wk_aload_n C dX8_buildChain_33 rfl rfl ?_
        refine wk_get C huX8_buildChain_8 hl0A.1 (fun cy => wAt_8 cy _ hl0A.2) rfl 4 (by decide) (List.mem_of_getElem? (i := 1) rfl) rfl (congrArg some (congrArg va_rf (wf_Numbers_chain hW hl0A).1)) dX8_buildChain_34 ?_
        refine wk_iconst C (v := 0) dX8_buildChain_37 (by decide) ?_
        obtain ⟨i2, h⟩ := h
        have w3 := wf_R_J hW (wf_Numbers_chain hW hl0A).2 (Nat.not_le.mp fun q => i2 (Or.inr q))
        refine wk_aald_J C (wf_Numbers_chain hW hl0A).2.1 (wf_Numbers_chain hW hl0A).2.2 i2 w3.1 dX8_buildChain_38 ?_
        refine wk_callW C hR (As := [.ref (wkAd (S.rA (wkAd (gNumbers_chain S l0A)) ((0 : Int32)).toNatClampNeg))]) (cnt := 1) (tX8_degreeOf (l := l) hW w3.2 h) rfl (wkGoodW (List.mem_of_getElem? (i := 2) rfl) (List.mem_of_getElem? (i := 3) rfl) (List.mem_of_getElem? (i := 4) rfl) hbX8_buildChain_X8_degreeOf gdX8_degreeOf) (Nat.le_trans (by decide : 0 + 1 ≤ 4) hd) (by decide) ⟨by decide, by decide, by decide +kernel⟩ rfl rfl (Nat.le_of_ble_eq_true rfl) (Nat.le_refl 0) (Nat.le_refl 0) dX8_buildChain_39 (fun v' S5 hp => ?_)
        obtain ⟨v4, rfl, h, hWS5, hXS5⟩ := hp
        refine wk_istore_n C (lv' := [some (.ref l0A), some (.ref l1A), some (.int v4)]) dX8_buildChain_42 rfl (by decide) rfl ?_
        refine wk_iload_n C dX8_buildChain_43 rfl rfl ?_
        refine wk_if_ge C (tgt := 48) dX8_buildChain_44 (by decide) (fun c9 => ?_) (fun c9 => ?_)
        · rw [if_pos c9] at h
          refine wk_aload_n C dX8_buildChain_48 rfl rfl ?_
          refine wk_get C huX8_buildChain_8 (hXS5 _ _ hl0A).1 (fun cy => wAt_8 cy _ (hXS5 _ _ hl0A).2) rfl 5 (by decide) (List.mem_of_getElem? (i := 5) rfl) rfl (congrArg some (congrArg va_rf (wf_Numbers_degrees hWS5 (hXS5 _ _ hl0A)).1)) dX8_buildChain_49 ?_
          refine wk_iconst C (v := 0) dX8_buildChain_52 (by decide) ?_
          refine wk_iload_n C dX8_buildChain_53 rfl rfl ?_
          obtain ⟨i10, h⟩ := h
          obtain ⟨S11, eS11, h⟩ := wkLt_some h
          refine wk_iast C (wf_Numbers_degrees hWS5 (hXS5 _ _ hl0A)).2.1 (wf_Numbers_degrees hWS5 (hXS5 _ _ hl0A)).2.2 i10 eS11.symm dX8_buildChain_54 ?_
          have hWS11 : wkWF S11 := by rw [eS11]; exact hWS5
          have hXS11 : wkExt S5 S11 := by rw [eS11]; exact wkExt.rf
          refine wk_aload_n C dX8_buildChain_55 rfl rfl ?_
          refine wk_callV C hR (As := []) (cnt := 0) (tX8_continueChain (l := l) hWS11 (hXS11 _ _ (hXS5 _ _ hl0A)) h) rfl (wkGoodV (List.mem_of_getElem? (i := 6) rfl) (List.mem_of_getElem? (i := 7) rfl) (List.mem_of_getElem? (i := 8) rfl) (List.mem_of_getElem? (i := 4) rfl) hbX8_buildChain_X8_continueChain gdX8_continueChain) (Nat.le_trans (by decide : 3 + 1 ≤ 4) hd) (by decide) (hXS11 _ _ (hXS5 _ _ hl0A)).1 (fun cy => wAt_8 cy _ (hXS11 _ _ (hXS5 _ _ hl0A)).2) rfl ⟨by decide, by decide, by decide +kernel⟩ rfl rfl (Nat.le_of_ble_eq_true rfl) (Nat.le_refl 0) (Nat.le_refl 0) dX8_buildChain_56 (fun v' S13 hp => ?_)
          obtain ⟨v12, rfl, h, hWS13, hXS13⟩ := hp
          refine wk_aload_n C dX8_buildChain_59 rfl rfl ?_
          refine wk_aload_n C dX8_buildChain_60 rfl rfl ?_
          refine wk_get C (v := .int (gNumbers_chainCount S13 l0A)) huX8_buildChain_8 (hXS13 _ _ (hXS11 _ _ (hXS5 _ _ hl0A))).1 (fun cy => wAt_8 cy _ (hXS13 _ _ (hXS11 _ _ (hXS5 _ _ hl0A))).2) rfl 8 (by decide) (List.mem_of_getElem? (i := 9) rfl) rfl rfl dX8_buildChain_61 ?_
          refine wk_iconst C (v := 1) dX8_buildChain_64 (by decide) ?_
          refine wk_isub C dX8_buildChain_65 rfl ?_
          refine wk_callV C hR (As := [.int ((gNumbers_chainCount S13 l0A) - (1 : Int32))]) (cnt := 1) (tX8_divideFirst (l := l) hWS13 (hXS13 _ _ (hXS11 _ _ (hXS5 _ _ hl0A))) h) rfl (wkGoodV (List.mem_of_getElem? (i := 10) rfl) (List.mem_of_getElem? (i := 11) rfl) (List.mem_of_getElem? (i := 12) rfl) (List.mem_of_getElem? (i := 4) rfl) hbX8_buildChain_X8_divideFirst gdX8_divideFirst) (Nat.le_trans (by decide : 3 + 1 ≤ 4) hd) (by decide) (hXS13 _ _ (hXS11 _ _ (hXS5 _ _ hl0A))).1 (fun cy => wAt_8 cy _ (hXS13 _ _ (hXS11 _ _ (hXS5 _ _ hl0A))).2) rfl ⟨by decide, by decide, by decide +kernel⟩ rfl rfl (Nat.le_of_ble_eq_true rfl) (Nat.le_refl 0) (Nat.le_refl 0) dX8_buildChain_66 (fun v' S18 hp => ?_)
          obtain ⟨v17, rfl, h, hWS18, hXS18⟩ := hp
          refine wk_aload_n C dX8_buildChain_69 rfl rfl ?_
          refine wk_callV C hR (As := []) (cnt := 0) (tX8_continueChain (l := l) hWS18 (hXS18 _ _ (hXS13 _ _ (hXS11 _ _ (hXS5 _ _ hl0A)))) h) rfl (wkGoodV (List.mem_of_getElem? (i := 6) rfl) (List.mem_of_getElem? (i := 7) rfl) (List.mem_of_getElem? (i := 8) rfl) (List.mem_of_getElem? (i := 4) rfl) hbX8_buildChain_X8_continueChain gdX8_continueChain) (Nat.le_trans (by decide : 3 + 1 ≤ 4) hd) (by decide) (hXS18 _ _ (hXS13 _ _ (hXS11 _ _ (hXS5 _ _ hl0A)))).1 (fun cy => wAt_8 cy _ (hXS18 _ _ (hXS13 _ _ (hXS11 _ _ (hXS5 _ _ hl0A)))).2) rfl ⟨by decide, by decide, by decide +kernel⟩ rfl rfl (Nat.le_of_ble_eq_true rfl) (Nat.le_refl 0) (Nat.le_refl 0) dX8_buildChain_70 (fun v' S23 hp => ?_)
          obtain ⟨v22, rfl, h, hWS23, hXS23⟩ := hp
          exact E _ _ _ _ _ (Nat.le_refl 0) (Nat.le_refl 0) dX8_buildChain_73 ⟨(), rfl, h, hWS23, (wkExt.tr (wkExt.tr (wkExt.tr (wkExt.tr (wkExt.tr hE hXS5) hXS11) hXS13) hXS18) hXS23)⟩
        · rw [if_neg c9] at h
          exact E _ _ _ _ _ (Nat.le_refl 0) (Nat.le_refl 0) dX8_buildChain_47 ⟨(), rfl, h, hWS5, (wkExt.tr hE hXS5)⟩
      · rw [if_neg c1] at h
        refine wk_aload_n C dX8_buildChain_12 rfl rfl ?_
        refine wk_get C huX8_buildChain_8 hl0A.1 (fun cy => wAt_8 cy _ hl0A.2) rfl 4 (by decide) (List.mem_of_getElem? (i := 1) rfl) rfl (congrArg some (congrArg va_rf (wf_Numbers_chain hW hl0A).1)) dX8_buildChain_13 ?_
        refine wk_iconst C (v := 0) dX8_buildChain_16 (by decide) ?_
        obtain ⟨i27, h⟩ := h
        have w28 := wf_R_J hW (wf_Numbers_chain hW hl0A).2 (Nat.not_le.mp fun q => i27 (Or.inr q))
        refine wk_aald_J C (wf_Numbers_chain hW hl0A).2.1 (wf_Numbers_chain hW hl0A).2.2 i27 w28.1 dX8_buildChain_17 ?_
        refine wk_iload_n C dX8_buildChain_18 rfl rfl ?_
        refine wk_aload_n C dX8_buildChain_19 rfl rfl ?_
        refine wk_iconst C (v := 0) dX8_buildChain_20 (by decide) ?_
        refine wk_iload_n C dX8_buildChain_21 rfl rfl ?_
        refine wk_callV C hR (As := [.int (0 : Int32), .int l2I]) (cnt := 2) (tX3_at (l := l) hW hl1A h) rfl (wkGoodV (List.mem_of_getElem? (i := 13) rfl) (List.mem_of_getElem? (i := 14) rfl) (List.mem_of_getElem? (i := 15) rfl) (List.mem_of_getElem? (i := 16) rfl) hbX8_buildChain_X3_at gdX3_at) (Nat.le_trans (by decide : 0 + 1 ≤ 4) hd) (by decide) hl1A.1 (fun cy => wAt_3 cy _ hl1A.2) rfl ⟨by decide, by decide, by decide +kernel⟩ rfl rfl (Nat.le_of_ble_eq_true rfl) (Nat.le_refl 0) (Nat.le_refl 0) dX8_buildChain_22 (fun v' S30 hp => ?_)
        obtain ⟨v29, rfl, h, hWS30, hXS30⟩ := hp
        refine wk_i2l C dX8_buildChain_25 rfl ?_
        obtain ⟨i34, h⟩ := h
        obtain ⟨S35, eS35, h⟩ := wkLt_some h
        refine wk_last C (hXS30 _ _ w28.2).1 (hXS30 _ _ w28.2).2 i34 eS35.symm dX8_buildChain_26 ?_
        have hWS35 : wkWF S35 := by rw [eS35]; exact hWS30
        have hXS35 : wkExt S30 S35 := by rw [eS35]; exact wkExt.rf
        obtain ⟨x36, ex36, h⟩ := wkLt_some h
        refine wk_iinc C (lv' := [some (.ref l0A), some (.ref l1A), some (.int x36)]) dX8_buildChain_27 rfl (by rw [ex36]; rfl) (by decide) rfl ?_
        refine wk_goto C (tgt := 7) dX8_buildChain_30 (by decide) ?_
        exact wk_forget (lv' := [some (.ref l0A), some (.ref l1A), some (.int x36)]) (wkLs.le ⟨rfl, rfl, rfl, trivial⟩) (ih _ _ _ _ hWS35 (wkExt.tr (wkExt.tr hE hXS30) hXS35) (hXS35 _ _ (hXS30 _ _ hl0A)) (hXS35 _ _ (hXS30 _ _ hl1A)) h)
set_option maxHeartbeats 4000000 in
set_option maxRecDepth 100000 in
theorem tX8_buildChain {l : Launch} {g : wkG} {F : Nat}  {S : wPS} {l0A : Nat} {l1A : Nat} {Φ : (Unit → wPS → Prop)} (hW : wkWF S) (hl0A : wkIs S l0A 8) (hl1A : wkIs S l1A 3) (h : rX8_buildChain F l0A l1A S Φ) : wkMet l g yX8_buildChain wvX8_buildChain 4 0 0 [.ref l0A, .ref l1A] S (fun v' S'' => ∃ v : Unit, v' = none ∧ Φ v S'' ∧ wkWF S'' ∧ wkExt S S'') := by
  refine wkMet_of (ret := none) (by decide) rfl (Nat.le_of_ble_eq_true rfl) (fun X hg C hR E => ?_)
  subst hg
  have hE : wkExt S S := wkExt.rf
  have hd : 4 ≤ 4 := Nat.le_refl _
  show wkGo l X 3 0 0 0 S [some (.ref l0A), some (.ref l1A), none] []
  have ih := tX8_buildChain_go (F := F) C hR hd E F
  have h : rX8_buildChain_s F (rX8_buildChain_go F F) l0A l1A S Φ := h
  unfold rX8_buildChain_s at h
  refine wk_aload_n C dX8_buildChain_0 rfl rfl ?_
  refine wk_iconst C (v := 0) dX8_buildChain_1 (by decide) ?_
  obtain ⟨S37, eS37, h⟩ := wkLt_some h
  refine wk_put C (S' := S37) huX8_buildChain_8 hl0A.1 (fun cy => wAt_8 cy _ hl0A.2) rfl 8 (by decide) (List.mem_of_getElem? (i := 9) rfl) rfl tyX8_ok nmX8 rfl (ty := .int) rfl rfl rfl (by show 8 < 9; decide) (fun cy b => by rw [eS37]; exact wSt_8_8 cy _ hl0A.2 _ b) (by rw [eS37]) dX8_buildChain_2 ?_
  have hWS37 : wkWF S37 := by rw [eS37]; exact hW
  have hXS37 : wkExt S S37 := by rw [eS37]; exact wkExt.rf
  refine wk_iconst C (v := 0) dX8_buildChain_5 (by decide) ?_
  refine wk_istore_n C (lv' := [some (.ref l0A), some (.ref l1A), some (.int (0 : Int32))]) dX8_buildChain_6 rfl (by decide) rfl ?_
  exact wk_forget (lv' := [some (.ref l0A), some (.ref l1A), some (.int (0 : Int32))]) (wkLs.le ⟨rfl, rfl, rfl, trivial⟩) (ih _ _ _ _ hWS37 (wkExt.tr hE hXS37) (hXS37 _ _ hl0A) (hXS37 _ _ hl1A) h)
def wvX8_judgeParts : List Cond := .code yX8_judgeParts cX8_judgeParts 4 (some .int) :: (([.fieldLink RX8 135 "Witnessworks$Row" "count" "I", .methodLink RX8 67 yX9_at, .instanceMethod yX9_at, .selects RX9 yX9_at yX9_at, .initialized RX9, .methodLink RX8 166 yX8_rootsOfPart, .instanceMethod yX8_rootsOfPart, .selects RX8 yX8_rootsOfPart yX8_rootsOfPart, .initialized RX8, .methodLink RX8 224 yX8_areParts, .static yX8_areParts, .methodLink RX8 228 yX8_areOrdered, .static yX8_areOrdered, .fieldLink RX8 74 "Witnessworks$Entry" "boundNow" "I", .methodLink RX8 163 yX8_buildChain, .instanceMethod yX8_buildChain, .selects RX8 yX8_buildChain yX8_buildChain] : List Cond) ++ ((wsX90 ++ (wsX30)) ++ (wvX9_at ++ (wvX8_rootsOfPart ++ (wvX8_areParts ++ (wvX8_areOrdered ++ (wvX8_buildChain)))))))
theorem huX8_judgeParts_9 : ∀ w ∈ u_ws RX9 TX9 2, w ∈ wvX8_judgeParts := fun w h => List.mem_cons_of_mem _ (List.mem_append_right _ (List.mem_append_left _ (List.mem_append_left _ h)))
theorem huX8_judgeParts_3 : ∀ w ∈ u_ws RX3 TX3 17, w ∈ wvX8_judgeParts := fun w h => List.mem_cons_of_mem _ (List.mem_append_right _ (List.mem_append_left _ (List.mem_append_right _ h)))
theorem hbX8_judgeParts_X9_at : ∀ w ∈ wvX9_at, w ∈ wvX8_judgeParts := fun w h => List.mem_cons_of_mem _ (List.mem_append_right _ (List.mem_append_right _ (List.mem_append_left _ h)))
theorem hbX8_judgeParts_X8_rootsOfPart : ∀ w ∈ wvX8_rootsOfPart, w ∈ wvX8_judgeParts := fun w h => List.mem_cons_of_mem _ (List.mem_append_right _ (List.mem_append_right _ (List.mem_append_right _ (List.mem_append_left _ h))))
theorem hbX8_judgeParts_X8_areParts : ∀ w ∈ wvX8_areParts, w ∈ wvX8_judgeParts := fun w h => List.mem_cons_of_mem _ (List.mem_append_right _ (List.mem_append_right _ (List.mem_append_right _ (List.mem_append_right _ (List.mem_append_left _ h)))))
theorem hbX8_judgeParts_X8_areOrdered : ∀ w ∈ wvX8_areOrdered, w ∈ wvX8_judgeParts := fun w h => List.mem_cons_of_mem _ (List.mem_append_right _ (List.mem_append_right _ (List.mem_append_right _ (List.mem_append_right _ (List.mem_append_right _ (List.mem_append_left _ h))))))
theorem hbX8_judgeParts_X8_buildChain : ∀ w ∈ wvX8_buildChain, w ∈ wvX8_judgeParts := fun w h => List.mem_cons_of_mem _ (List.mem_append_right _ (List.mem_append_right _ (List.mem_append_right _ (List.mem_append_right _ (List.mem_append_right _ (List.mem_append_right _ h))))))
theorem gdX8_judgeParts : ∀ w ∈ wvX8_judgeParts, wkGd w := wkGdC rfl (wkGdA (wkGdL (by decide +kernel)) (wkGdA (wkGdA gdX9 gdX3) (wkGdA gdX9_at (wkGdA gdX8_rootsOfPart (wkGdA gdX8_areParts (wkGdA gdX8_areOrdered gdX8_buildChain))))))
def rX8_judgeParts_b0 (F : Nat) (rec : Nat → Nat → Nat → Int32 → wPS → (Int32 → wPS → Prop) → Prop) (l0A : Nat) (l2A : Nat) (l3I : Int32) (S : wPS) (Φ : (Int32 → wPS → Prop)) : Prop :=
  if (gRow_count S l2A) ≤ l3I then (Φ (0 : Int32) S) else (rX9_at F l2A l3I S fun v2 S3 => rX9_at F l2A (l3I + (1 : Int32)) S3 fun v7 S8 => rX8_rootsOfPart F l0A v2 v7 S8 fun v12 S13 => if (1 : Int32) ≤ v12 then (wkLt (l3I + (2 : Int32)) fun x18 => rec 0 l0A l2A x18 S13 Φ) else (Φ (4 : Int32) S13))
def rX8_judgeParts_go (F : Nat) : Nat → Nat → Nat → Nat → Int32 → wPS → (Int32 → wPS → Prop) → Prop
  | 0, _, _, _, _, _, _ => False
  | k' + 1, lab, l0A, l2A, l3I, S, Φ => if lab = 0 then rX8_judgeParts_b0 F (rX8_judgeParts_go F k') l0A l2A l3I S Φ else False
def rX8_judgeParts_s (F : Nat) (rec : Nat → Nat → Nat → Int32 → wPS → (Int32 → wPS → Prop) → Prop) (l0A : Nat) (l1A : Nat) (l2A : Nat) (S : wPS) (Φ : (Int32 → wPS → Prop)) : Prop :=
  if ((gRow_count S l2A) - (gRow_count S l2A) / (2 : Int32) * (2 : Int32)) = 0 then (rX8_areParts F l2A S fun v20 S21 => if v20 = 0 then (Φ (1 : Int32) S21) else (rX8_areOrdered F l2A S21 fun v26 S27 => if v26 = 0 then (Φ (2 : Int32) S27) else (if (gEntry_boundNow S27 l1A) ≤ ((gRow_count S27 l2A) / (2 : Int32)) then (rX8_buildChain F l0A l1A S27 fun v33 S34 => rec 0 l0A l2A (0 : Int32) S34 Φ) else (Φ (3 : Int32) S27)))) else (Φ (1 : Int32) S)
def rX8_judgeParts (F : Nat) (l0A : Nat) (l1A : Nat) (l2A : Nat) (S : wPS) (Φ : (Int32 → wPS → Prop)) : Prop := rX8_judgeParts_s F (rX8_judgeParts_go F F) l0A l1A l2A S Φ
set_option maxHeartbeats 4000000 in
set_option maxRecDepth 100000 in
theorem tX8_judgeParts_go {l : Launch} {X : wkX} {d F : Nat} {S0 : wPS} {Φ : (Int32 → wPS → Prop)} (C : wkC X cX8_judgeParts RX8 4 wvX8_judgeParts) (hR : wkRm X d 0 0) (hd : 5 ≤ d) (E : wkEnd l X cX8_judgeParts 4 (some .int) 0 0 (fun v' S'' => ∃ v : Int32, v' = some (.int v) ∧ Φ v S'' ∧ wkWF S'' ∧ wkExt S0 S'')) : ∀ k' : Nat, (∀ (l0A : Nat) (l2A : Nat) (l3I : Int32) (S : wPS), wkWF S → wkExt S0 S → wkIs S l0A 8 → wkIs S l2A 9 → rX8_judgeParts_go F k' 0 l0A l2A l3I S Φ → wkGo l X 4 0 0 49 S [some (.ref l0A), none, some (.ref l2A), some (.int l3I)] []) := by
  intro k'
  induction k' with
  | zero => exact fun l0A l2A l3I S hW hE hl0A hl2A h => h.elim
  | succ k' ih =>
    · intro l0A l2A l3I S hW hE hl0A hl2A h
      have h : rX8_judgeParts_b0 F (rX8_judgeParts_go F k') l0A l2A l3I S Φ := by
        rw [rX8_judgeParts_go, if_pos (rfl : (0 : Nat) = 0)] at h
        exact h
      unfold rX8_judgeParts_b0 at h
      refine wk_iload_n C dX8_judgeParts_49 rfl rfl ?_
      refine wk_aload_n C dX8_judgeParts_50 rfl rfl ?_
      refine wk_get C (v := .int (gRow_count S l2A)) huX8_judgeParts_9 hl2A.1 (fun cy => wAt_9 cy _ hl2A.2) rfl 1 (by decide) (List.mem_of_getElem? (i := 1) rfl) rfl rfl dX8_judgeParts_51 ?_
      refine wk_icmp_ge C (tgt := 85) dX8_judgeParts_54 (by decide) (fun c1 => ?_) (fun c1 => ?_)
      · rw [if_pos c1] at h
        refine wk_iconst C (v := 0) dX8_judgeParts_85 (by decide) ?_
        exact E _ _ _ _ _ _ (Nat.le_refl 0) (Nat.le_refl 0) dX8_judgeParts_86 ⟨(0 : Int32), rfl, h, hW, hE⟩
      · rw [if_neg c1] at h
        refine wk_aload_n C dX8_judgeParts_57 rfl rfl ?_
        refine wk_aload_n C dX8_judgeParts_58 rfl rfl ?_
        refine wk_iload_n C dX8_judgeParts_59 rfl rfl ?_
        refine wk_callV C hR (As := [.int l3I]) (cnt := 1) (tX9_at (l := l) hW hl2A h) rfl (wkGoodV (List.mem_of_getElem? (i := 2) rfl) (List.mem_of_getElem? (i := 3) rfl) (List.mem_of_getElem? (i := 4) rfl) (List.mem_of_getElem? (i := 5) rfl) hbX8_judgeParts_X9_at gdX9_at) (Nat.le_trans (by decide : 0 + 1 ≤ 5) hd) (by decide) hl2A.1 (fun cy => wAt_9 cy _ hl2A.2) rfl ⟨by decide, by decide, by decide +kernel⟩ rfl rfl (Nat.le_of_ble_eq_true rfl) (Nat.le_refl 0) (Nat.le_refl 0) dX8_judgeParts_60 (fun v' S3 hp => ?_)
        obtain ⟨v2, rfl, h, hWS3, hXS3⟩ := hp
        refine wk_aload_n C dX8_judgeParts_63 rfl rfl ?_
        refine wk_iload_n C dX8_judgeParts_64 rfl rfl ?_
        refine wk_iconst C (v := 1) dX8_judgeParts_65 (by decide) ?_
        refine wk_iadd C dX8_judgeParts_66 rfl ?_
        refine wk_callV C hR (As := [.int (l3I + (1 : Int32))]) (cnt := 1) (tX9_at (l := l) hWS3 (hXS3 _ _ hl2A) h) rfl (wkGoodV (List.mem_of_getElem? (i := 2) rfl) (List.mem_of_getElem? (i := 3) rfl) (List.mem_of_getElem? (i := 4) rfl) (List.mem_of_getElem? (i := 5) rfl) hbX8_judgeParts_X9_at gdX9_at) (Nat.le_trans (by decide : 0 + 1 ≤ 5) hd) (by decide) (hXS3 _ _ hl2A).1 (fun cy => wAt_9 cy _ (hXS3 _ _ hl2A).2) rfl ⟨by decide, by decide, by decide +kernel⟩ rfl rfl (Nat.le_of_ble_eq_true rfl) (Nat.le_refl 0) (Nat.le_refl 0) dX8_judgeParts_67 (fun v' S8 hp => ?_)
        obtain ⟨v7, rfl, h, hWS8, hXS8⟩ := hp
        refine wk_callV C hR (As := [.int v2, .int v7]) (cnt := 2) (tX8_rootsOfPart (l := l) hWS8 (hXS8 _ _ (hXS3 _ _ hl0A)) h) rfl (wkGoodV (List.mem_of_getElem? (i := 6) rfl) (List.mem_of_getElem? (i := 7) rfl) (List.mem_of_getElem? (i := 8) rfl) (List.mem_of_getElem? (i := 9) rfl) hbX8_judgeParts_X8_rootsOfPart gdX8_rootsOfPart) (Nat.le_trans (by decide : 2 + 1 ≤ 5) hd) (by decide) (hXS8 _ _ (hXS3 _ _ hl0A)).1 (fun cy => wAt_8 cy _ (hXS8 _ _ (hXS3 _ _ hl0A)).2) rfl ⟨by decide, by decide, by decide +kernel⟩ rfl rfl (Nat.le_of_ble_eq_true rfl) (Nat.le_refl 0) (Nat.le_refl 0) dX8_judgeParts_70 (fun v' S13 hp => ?_)
        obtain ⟨v12, rfl, h, hWS13, hXS13⟩ := hp
        refine wk_iconst C (v := 1) dX8_judgeParts_73 (by decide) ?_
        refine wk_icmp_ge C (tgt := 79) dX8_judgeParts_74 (by decide) (fun c17 => ?_) (fun c17 => ?_)
        · rw [if_pos c17] at h
          obtain ⟨x18, ex18, h⟩ := wkLt_some h
          refine wk_iinc C (lv' := [some (.ref l0A), none, some (.ref l2A), some (.int x18)]) dX8_judgeParts_79 rfl (by rw [ex18]; rfl) (by decide) rfl ?_
          refine wk_goto C (tgt := 49) dX8_judgeParts_82 (by decide) ?_
          exact wk_forget (lv' := [some (.ref l0A), none, some (.ref l2A), some (.int x18)]) (wkLs.le ⟨rfl, rfl, rfl, trivial⟩) (ih _ _ _ _ hWS13 (wkExt.tr (wkExt.tr (wkExt.tr hE hXS3) hXS8) hXS13) (hXS13 _ _ (hXS8 _ _ (hXS3 _ _ hl0A))) (hXS13 _ _ (hXS8 _ _ (hXS3 _ _ hl2A))) h)
        · rw [if_neg c17] at h
          refine wk_iconst C (v := 4) dX8_judgeParts_77 (by decide) ?_
          exact E _ _ _ _ _ _ (Nat.le_refl 0) (Nat.le_refl 0) dX8_judgeParts_78 ⟨(4 : Int32), rfl, h, hWS13, (wkExt.tr (wkExt.tr (wkExt.tr hE hXS3) hXS8) hXS13)⟩
set_option maxHeartbeats 4000000 in
set_option maxRecDepth 100000 in
theorem tX8_judgeParts {l : Launch} {g : wkG} {F : Nat}  {S : wPS} {l0A : Nat} {l1A : Nat} {l2A : Nat} {Φ : (Int32 → wPS → Prop)} (hW : wkWF S) (hl0A : wkIs S l0A 8) (hl1A : wkIs S l1A 3) (hl2A : wkIs S l2A 9) (h : rX8_judgeParts F l0A l1A l2A S Φ) : wkMet l g yX8_judgeParts wvX8_judgeParts 5 0 0 [.ref l0A, .ref l1A, .ref l2A] S (fun v' S'' => ∃ v : Int32, v' = some (.int v) ∧ Φ v S'' ∧ wkWF S'' ∧ wkExt S S'') := by
  refine wkMet_of (ret := (some .int)) (by decide) rfl (Nat.le_of_ble_eq_true rfl) (fun X hg C hR E => ?_)
  subst hg
  have hE : wkExt S S := wkExt.rf
  have hd : 5 ≤ 5 := Nat.le_refl _
  show wkGo l X 4 0 0 0 S [some (.ref l0A), some (.ref l1A), some (.ref l2A), none] []
  have ih := tX8_judgeParts_go (F := F) C hR hd E F
  have h : rX8_judgeParts_s F (rX8_judgeParts_go F F) l0A l1A l2A S Φ := h
  unfold rX8_judgeParts_s at h
  refine wk_aload_n C dX8_judgeParts_0 rfl rfl ?_
  refine wk_get C (v := .int (gRow_count S l2A)) huX8_judgeParts_9 hl2A.1 (fun cy => wAt_9 cy _ hl2A.2) rfl 1 (by decide) (List.mem_of_getElem? (i := 1) rfl) rfl rfl dX8_judgeParts_1 ?_
  refine wk_iconst C (v := 2) dX8_judgeParts_4 (by decide) ?_
  refine wk_irem C dX8_judgeParts_5 (by decide) rfl ?_
  refine wk_if_ne C (tgt := 16) dX8_judgeParts_6 (by decide) (fun c19 => ?_) (fun c19 => ?_)
  · rw [if_neg c19] at h
    refine wk_iconst C (v := 1) dX8_judgeParts_16 (by decide) ?_
    exact E _ _ _ _ _ _ (Nat.le_refl 0) (Nat.le_refl 0) dX8_judgeParts_17 ⟨(1 : Int32), rfl, h, hW, hE⟩
  · rw [if_pos c19] at h
    refine wk_aload_n C dX8_judgeParts_9 rfl rfl ?_
    refine wk_callW C hR (As := [.ref l2A]) (cnt := 1) (tX8_areParts (l := l) hW hl2A h) rfl (wkGoodW (List.mem_of_getElem? (i := 10) rfl) (List.mem_of_getElem? (i := 11) rfl) (List.mem_of_getElem? (i := 9) rfl) hbX8_judgeParts_X8_areParts gdX8_areParts) (Nat.le_trans (by decide : 1 + 1 ≤ 5) hd) (by decide) ⟨by decide, by decide, by decide +kernel⟩ rfl rfl (Nat.le_of_ble_eq_true rfl) (Nat.le_refl 0) (Nat.le_refl 0) dX8_judgeParts_10 (fun v' S21 hp => ?_)
    obtain ⟨v20, rfl, h, hWS21, hXS21⟩ := hp
    refine wk_if_ne C (tgt := 18) dX8_judgeParts_13 (by decide) (fun c25 => ?_) (fun c25 => ?_)
    · rw [if_neg c25] at h
      refine wk_aload_n C dX8_judgeParts_18 rfl rfl ?_
      refine wk_callW C hR (As := [.ref l2A]) (cnt := 1) (tX8_areOrdered (l := l) hWS21 (hXS21 _ _ hl2A) h) rfl (wkGoodW (List.mem_of_getElem? (i := 12) rfl) (List.mem_of_getElem? (i := 13) rfl) (List.mem_of_getElem? (i := 9) rfl) hbX8_judgeParts_X8_areOrdered gdX8_areOrdered) (Nat.le_trans (by decide : 1 + 1 ≤ 5) hd) (by decide) ⟨by decide, by decide, by decide +kernel⟩ rfl rfl (Nat.le_of_ble_eq_true rfl) (Nat.le_refl 0) (Nat.le_refl 0) dX8_judgeParts_19 (fun v' S27 hp => ?_)
      obtain ⟨v26, rfl, h, hWS27, hXS27⟩ := hp
      refine wk_if_ne C (tgt := 27) dX8_judgeParts_22 (by decide) (fun c31 => ?_) (fun c31 => ?_)
      · rw [if_neg c31] at h
        refine wk_aload_n C dX8_judgeParts_27 rfl rfl ?_
        refine wk_get C (v := .int (gRow_count S27 l2A)) huX8_judgeParts_9 (hXS27 _ _ (hXS21 _ _ hl2A)).1 (fun cy => wAt_9 cy _ (hXS27 _ _ (hXS21 _ _ hl2A)).2) rfl 1 (by decide) (List.mem_of_getElem? (i := 1) rfl) rfl rfl dX8_judgeParts_28 ?_
        refine wk_iconst C (v := 2) dX8_judgeParts_31 (by decide) ?_
        refine wk_idiv C dX8_judgeParts_32 (by decide) rfl ?_
        refine wk_aload_n C dX8_judgeParts_33 rfl rfl ?_
        refine wk_get C (v := .int (gEntry_boundNow S27 l1A)) huX8_judgeParts_3 (hXS27 _ _ (hXS21 _ _ hl1A)).1 (fun cy => wAt_3 cy _ (hXS27 _ _ (hXS21 _ _ hl1A)).2) rfl 8 (by decide) (List.mem_of_getElem? (i := 14) rfl) rfl rfl dX8_judgeParts_34 ?_
        refine wk_icmp_ge C (tgt := 42) dX8_judgeParts_37 (by decide) (fun c32 => ?_) (fun c32 => ?_)
        · rw [if_pos c32] at h
          refine wk_aload_n C dX8_judgeParts_42 rfl rfl ?_
          refine wk_aload_n C dX8_judgeParts_43 rfl rfl ?_
          refine wk_callV C hR (As := [.ref l1A]) (cnt := 1) (tX8_buildChain (l := l) hWS27 (hXS27 _ _ (hXS21 _ _ hl0A)) (hXS27 _ _ (hXS21 _ _ hl1A)) h) rfl (wkGoodV (List.mem_of_getElem? (i := 15) rfl) (List.mem_of_getElem? (i := 16) rfl) (List.mem_of_getElem? (i := 17) rfl) (List.mem_of_getElem? (i := 9) rfl) hbX8_judgeParts_X8_buildChain gdX8_buildChain) (Nat.le_trans (by decide : 4 + 1 ≤ 5) hd) (by decide) (hXS27 _ _ (hXS21 _ _ hl0A)).1 (fun cy => wAt_8 cy _ (hXS27 _ _ (hXS21 _ _ hl0A)).2) rfl ⟨by decide, by decide, by decide +kernel⟩ rfl rfl (Nat.le_of_ble_eq_true rfl) (Nat.le_refl 0) (Nat.le_refl 0) dX8_judgeParts_44 (fun v' S34 hp => ?_)
          obtain ⟨v33, rfl, h, hWS34, hXS34⟩ := hp
          refine wk_iconst C (v := 0) dX8_judgeParts_47 (by decide) ?_
          refine wk_istore_n C (lv' := [some (.ref l0A), some (.ref l1A), some (.ref l2A), some (.int (0 : Int32))]) dX8_judgeParts_48 rfl (by decide) rfl ?_
          exact wk_forget (lv' := [some (.ref l0A), none, some (.ref l2A), some (.int (0 : Int32))]) (wkLs.le ⟨rfl, rfl, rfl, trivial⟩) (ih _ _ _ _ hWS34 (wkExt.tr (wkExt.tr (wkExt.tr hE hXS21) hXS27) hXS34) (hXS34 _ _ (hXS27 _ _ (hXS21 _ _ hl0A))) (hXS34 _ _ (hXS27 _ _ (hXS21 _ _ hl2A))) h)
        · rw [if_neg c32] at h
          refine wk_iconst C (v := 3) dX8_judgeParts_40 (by decide) ?_
          exact E _ _ _ _ _ _ (Nat.le_refl 0) (Nat.le_refl 0) dX8_judgeParts_41 ⟨(3 : Int32), rfl, h, hWS27, (wkExt.tr (wkExt.tr hE hXS21) hXS27)⟩
      · rw [if_pos c31] at h
        refine wk_iconst C (v := 2) dX8_judgeParts_25 (by decide) ?_
        exact E _ _ _ _ _ _ (Nat.le_refl 0) (Nat.le_refl 0) dX8_judgeParts_26 ⟨(2 : Int32), rfl, h, hWS27, (wkExt.tr (wkExt.tr hE hXS21) hXS27)⟩
    · rw [if_pos c25] at h
      refine wk_iconst C (v := 1) dX8_judgeParts_16 (by decide) ?_
      exact E _ _ _ _ _ _ (Nat.le_refl 0) (Nat.le_refl 0) dX8_judgeParts_17 ⟨(1 : Int32), rfl, h, hWS21, (wkExt.tr hE hXS21)⟩
