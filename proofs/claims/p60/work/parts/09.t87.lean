def wvX11_isSoundEntry : List Cond := .code yX11_isSoundEntry cX11_isSoundEntry 2 (some .boolean) :: (([.fieldLink RX11 10 "Witnessworks" "house" "LWitnessworks$House;", .fieldLink RX11 227 "Witnessworks$Entry" "row" "LWitnessworks$Row;", .fieldLink RX11 221 "Witnessworks$Entry" "reply" "C", .methodLink RX11 382 yX4_judge, .instanceMethod yX4_judge, .selects RX4 yX4_judge yX4_judge, .initialized RX4, .methodLink RX11 366 yX11_wouldBeCarriedSo, .instanceMethod yX11_wouldBeCarriedSo, .selects RX11 yX11_wouldBeCarriedSo yX11_wouldBeCarriedSo, .initialized RX11, .fieldLink RX11 18 "Witnessworks" "book" "[LWitnessworks$Entry;", .fieldLink RX11 191 "Witnessworks$Entry" "origin" "I"] : List Cond) ++ ((wsX110 ++ (wsX30)) ++ (wvX4_judge ++ (wvX11_wouldBeCarriedSo))))
theorem huX11_isSoundEntry_11 : ∀ w ∈ u_ws RX11 TX11 19, w ∈ wvX11_isSoundEntry := fun w h => List.mem_cons_of_mem _ (List.mem_append_right _ (List.mem_append_left _ (List.mem_append_left _ h)))
theorem huX11_isSoundEntry_3 : ∀ w ∈ u_ws RX3 TX3 17, w ∈ wvX11_isSoundEntry := fun w h => List.mem_cons_of_mem _ (List.mem_append_right _ (List.mem_append_left _ (List.mem_append_right _ h)))
theorem hbX11_isSoundEntry_X4_judge : ∀ w ∈ wvX4_judge, w ∈ wvX11_isSoundEntry := fun w h => List.mem_cons_of_mem _ (List.mem_append_right _ (List.mem_append_right _ (List.mem_append_left _ h)))
theorem hbX11_isSoundEntry_X11_wouldBeCarriedSo : ∀ w ∈ wvX11_wouldBeCarriedSo, w ∈ wvX11_isSoundEntry := fun w h => List.mem_cons_of_mem _ (List.mem_append_right _ (List.mem_append_right _ (List.mem_append_right _ h)))
theorem gdX11_isSoundEntry : ∀ w ∈ wvX11_isSoundEntry, wkGd w := wkGdC rfl (wkGdA (wkGdL (by decide +kernel)) (wkGdA (wkGdA gdX11 gdX3) (wkGdA gdX4_judge gdX11_wouldBeCarriedSo)))
def rX11_isSoundEntry (F : Nat) (l0A : Nat) (l1A : Nat) (S : wPS) (Φ : (Int32 → wPS → Prop)) : Prop :=
  if (gEntry_reply S l1A) = (121 : Int32) then (rX4_judge F (wkAd (gWitnessworks_house S l0A)) l1A (wkAd (gEntry_row S l1A)) (1 : Int32) S fun v17 S18 => if v17 = 0 then (rX11_wouldBeCarriedSo F l0A l1A S18 fun v23 S24 => if v23 = 0 then (Φ (1 : Int32) S24) else (¬ ((gEntry_origin S24 l1A) < 0 ∨ S24.len (wkAd (gWitnessworks_book S24 l0A)) ≤ ((gEntry_origin S24 l1A)).toNatClampNeg) ∧ if (gEntry_reply S24 (wkAd (S24.rA (wkAd (gWitnessworks_book S24 l0A)) ((gEntry_origin S24 l1A)).toNatClampNeg))) = (gEntry_reply S24 l1A) then (Φ (1 : Int32) S24) else (Φ (0 : Int32) S24))) else (Φ (0 : Int32) S18)) else (rX4_judge F (wkAd (gWitnessworks_house S l0A)) l1A (wkAd (gEntry_row S l1A)) (0 : Int32) S fun v2 S3 => if v2 = 0 then (rX11_wouldBeCarriedSo F l0A l1A S3 fun v8 S9 => if v8 = 0 then (Φ (1 : Int32) S9) else (¬ ((gEntry_origin S9 l1A) < 0 ∨ S9.len (wkAd (gWitnessworks_book S9 l0A)) ≤ ((gEntry_origin S9 l1A)).toNatClampNeg) ∧ if (gEntry_reply S9 (wkAd (S9.rA (wkAd (gWitnessworks_book S9 l0A)) ((gEntry_origin S9 l1A)).toNatClampNeg))) = (gEntry_reply S9 l1A) then (Φ (1 : Int32) S9) else (Φ (0 : Int32) S9))) else (Φ (0 : Int32) S3))
set_option maxHeartbeats 4000000 in
set_option maxRecDepth 100000 in
theorem tX11_isSoundEntry {l : Launch} {g : wkG} {F : Nat}  {S : wPS} {l0A : Nat} {l1A : Nat} {Φ : (Int32 → wPS → Prop)} (hst : wkSta g) (hW : wkWF S) (hl0A : wkIs S l0A 11) (hl1A : wkIs S l1A 3) (h : rX11_isSoundEntry F l0A l1A S Φ) : wkMet l g yX11_isSoundEntry wvX11_isSoundEntry 54 0 0 [.ref l0A, .ref l1A] S (fun v' S'' => ∃ v : Int32, v' = some (.int v) ∧ Φ v S'' ∧ wkWF S'' ∧ wkExt S S'') := by
  refine wkMet_of (ret := (some .boolean)) (by decide) rfl (Nat.le_of_ble_eq_true rfl) (fun X hg C hR E => ?_)
  subst hg
  have hE : wkExt S S := wkExt.rf
  have hd : 54 ≤ 54 := Nat.le_refl _
  show wkGo l X 2 0 0 0 S [some (.ref l0A), some (.ref l1A)] []
  unfold rX11_isSoundEntry at h
  refine wk_aload_n C dX11_isSoundEntry_0 rfl rfl ?_
  refine wk_get C huX11_isSoundEntry_11 hl0A.1 (fun cy => wAt_11 cy _ hl0A.2) rfl 0 (by decide) (List.mem_of_getElem? (i := 1) rfl) rfl (congrArg some (congrArg va_rf (wf_Witnessworks_house hW hl0A).1)) dX11_isSoundEntry_1 ?_
  refine wk_aload_n C dX11_isSoundEntry_4 rfl rfl ?_
  refine wk_aload_n C dX11_isSoundEntry_5 rfl rfl ?_
  refine wk_get C huX11_isSoundEntry_3 hl1A.1 (fun cy => wAt_3 cy _ hl1A.2) rfl 13 (by decide) (List.mem_of_getElem? (i := 2) rfl) rfl (congrArg some (congrArg va_rf (wf_Entry_row hW hl1A).1)) dX11_isSoundEntry_6 ?_
  refine wk_aload_n C dX11_isSoundEntry_9 rfl rfl ?_
  refine wk_get C (v := .int (gEntry_reply S l1A)) huX11_isSoundEntry_3 hl1A.1 (fun cy => wAt_3 cy _ hl1A.2) rfl 11 (by decide) (List.mem_of_getElem? (i := 3) rfl) rfl rfl dX11_isSoundEntry_10 ?_
  refine wk_bipush C (v := 121) dX11_isSoundEntry_13 (by decide) ?_
  refine wk_icmp_ne C (tgt := 22) dX11_isSoundEntry_15 (by decide) (fun c1 => ?_) (fun c1 => ?_)
  · rw [if_neg c1] at h
    refine wk_iconst C (v := 0) dX11_isSoundEntry_22 (by decide) ?_
    refine wk_callV C hR (As := [.ref l1A, .ref (wkAd (gEntry_row S l1A)), .int (0 : Int32)]) (cnt := 3) (tX4_judge (l := l) hW (wf_Witnessworks_house hW hl0A).2 hl1A (wf_Entry_row hW hl1A).2 h) rfl (wkGoodV (List.mem_of_getElem? (i := 4) rfl) (List.mem_of_getElem? (i := 5) rfl) (List.mem_of_getElem? (i := 6) rfl) (List.mem_of_getElem? (i := 7) rfl) hbX11_isSoundEntry_X4_judge gdX4_judge) (Nat.le_trans (by decide : 53 + 1 ≤ 54) hd) (by decide) (wf_Witnessworks_house hW hl0A).2.1 (fun cy => wAt_4 cy _ (wf_Witnessworks_house hW hl0A).2.2) rfl ⟨by decide, by decide, by decide +kernel⟩ rfl rfl (Nat.le_of_ble_eq_true rfl) (Nat.le_refl 0) (Nat.le_refl 0) dX11_isSoundEntry_23 (fun v' S3 hp => ?_)
    obtain ⟨v2, rfl, h, hWS3, hXS3⟩ := hp
    refine wk_if_eq C (tgt := 31) dX11_isSoundEntry_26 (by decide) (fun c7 => ?_) (fun c7 => ?_)
    · rw [if_pos c7] at h
      refine wk_aload_n C dX11_isSoundEntry_31 rfl rfl ?_
      refine wk_aload_n C dX11_isSoundEntry_32 rfl rfl ?_
      refine wk_callV C hR (As := [.ref l1A]) (cnt := 1) (tX11_wouldBeCarriedSo (l := l) hst hWS3 (hXS3 _ _ hl0A) (hXS3 _ _ hl1A) h) rfl (wkGoodV (List.mem_of_getElem? (i := 8) rfl) (List.mem_of_getElem? (i := 9) rfl) (List.mem_of_getElem? (i := 10) rfl) (List.mem_of_getElem? (i := 11) rfl) hbX11_isSoundEntry_X11_wouldBeCarriedSo gdX11_wouldBeCarriedSo) (Nat.le_trans (by decide : 5 + 1 ≤ 54) hd) (by decide) (hXS3 _ _ hl0A).1 (fun cy => wAt_11 cy _ (hXS3 _ _ hl0A).2) rfl ⟨by decide, by decide, by decide +kernel⟩ rfl rfl (Nat.le_of_ble_eq_true rfl) (Nat.le_refl 0) (Nat.le_refl 0) dX11_isSoundEntry_33 (fun v' S9 hp => ?_)
      obtain ⟨v8, rfl, h, hWS9, hXS9⟩ := hp
      refine wk_if_eq C (tgt := 58) dX11_isSoundEntry_36 (by decide) (fun c13 => ?_) (fun c13 => ?_)
      · rw [if_pos c13] at h
        refine wk_iconst C (v := 1) dX11_isSoundEntry_58 (by decide) ?_
        refine wk_goto C (tgt := 63) dX11_isSoundEntry_59 (by decide) ?_
        exact E _ _ _ _ _ _ (Nat.le_refl 0) (Nat.le_refl 0) dX11_isSoundEntry_63 rfl ⟨(1 : Int32), rfl, h, hWS9, (wkExt.tr (wkExt.tr hE hXS3) hXS9)⟩
      · rw [if_neg c13] at h
        refine wk_aload_n C dX11_isSoundEntry_39 rfl rfl ?_
        refine wk_get C huX11_isSoundEntry_11 (hXS9 _ _ (hXS3 _ _ hl0A)).1 (fun cy => wAt_11 cy _ (hXS9 _ _ (hXS3 _ _ hl0A)).2) rfl 1 (by decide) (List.mem_of_getElem? (i := 12) rfl) rfl (congrArg some (congrArg va_rf (wf_Witnessworks_book hWS9 (hXS9 _ _ (hXS3 _ _ hl0A))).1)) dX11_isSoundEntry_40 ?_
        refine wk_aload_n C dX11_isSoundEntry_43 rfl rfl ?_
        refine wk_get C (v := .int (gEntry_origin S9 l1A)) huX11_isSoundEntry_3 (hXS9 _ _ (hXS3 _ _ hl1A)).1 (fun cy => wAt_3 cy _ (hXS9 _ _ (hXS3 _ _ hl1A)).2) rfl 5 (by decide) (List.mem_of_getElem? (i := 13) rfl) rfl rfl dX11_isSoundEntry_44 ?_
        obtain ⟨i14, h⟩ := h
        have w15 := wf_REntry hWS9 (wf_Witnessworks_book hWS9 (hXS9 _ _ (hXS3 _ _ hl0A))).2 (Nat.not_le.mp fun q => i14 (Or.inr q))
        refine wk_aaldEntry C (wf_Witnessworks_book hWS9 (hXS9 _ _ (hXS3 _ _ hl0A))).2.1 (wf_Witnessworks_book hWS9 (hXS9 _ _ (hXS3 _ _ hl0A))).2.2 i14 w15.1 dX11_isSoundEntry_47 ?_
        refine wk_get C (v := .int (gEntry_reply S9 (wkAd (S9.rA (wkAd (gWitnessworks_book S9 l0A)) ((gEntry_origin S9 l1A)).toNatClampNeg)))) huX11_isSoundEntry_3 w15.2.1 (fun cy => wAt_3 cy _ w15.2.2) rfl 11 (by decide) (List.mem_of_getElem? (i := 3) rfl) rfl rfl dX11_isSoundEntry_48 ?_
        refine wk_aload_n C dX11_isSoundEntry_51 rfl rfl ?_
        refine wk_get C (v := .int (gEntry_reply S9 l1A)) huX11_isSoundEntry_3 (hXS9 _ _ (hXS3 _ _ hl1A)).1 (fun cy => wAt_3 cy _ (hXS9 _ _ (hXS3 _ _ hl1A)).2) rfl 11 (by decide) (List.mem_of_getElem? (i := 3) rfl) rfl rfl dX11_isSoundEntry_52 ?_
        refine wk_icmp_ne C (tgt := 62) dX11_isSoundEntry_55 (by decide) (fun c16 => ?_) (fun c16 => ?_)
        · rw [if_neg c16] at h
          refine wk_iconst C (v := 0) dX11_isSoundEntry_62 (by decide) ?_
          exact E _ _ _ _ _ _ (Nat.le_refl 0) (Nat.le_refl 0) dX11_isSoundEntry_63 rfl ⟨(0 : Int32), rfl, h, hWS9, (wkExt.tr (wkExt.tr hE hXS3) hXS9)⟩
        · rw [if_pos c16] at h
          refine wk_iconst C (v := 1) dX11_isSoundEntry_58 (by decide) ?_
          refine wk_goto C (tgt := 63) dX11_isSoundEntry_59 (by decide) ?_
          exact E _ _ _ _ _ _ (Nat.le_refl 0) (Nat.le_refl 0) dX11_isSoundEntry_63 rfl ⟨(1 : Int32), rfl, h, hWS9, (wkExt.tr (wkExt.tr hE hXS3) hXS9)⟩
    · rw [if_neg c7] at h
      refine wk_iconst C (v := 0) dX11_isSoundEntry_29 (by decide) ?_
      exact E _ _ _ _ _ _ (Nat.le_refl 0) (Nat.le_refl 0) dX11_isSoundEntry_30 rfl ⟨(0 : Int32), rfl, h, hWS3, (wkExt.tr hE hXS3)⟩
  · rw [if_pos c1] at h
    refine wk_iconst C (v := 1) dX11_isSoundEntry_18 (by decide) ?_
    refine wk_goto C (tgt := 23) dX11_isSoundEntry_19 (by decide) ?_
    refine wk_callV C hR (As := [.ref l1A, .ref (wkAd (gEntry_row S l1A)), .int (1 : Int32)]) (cnt := 3) (tX4_judge (l := l) hW (wf_Witnessworks_house hW hl0A).2 hl1A (wf_Entry_row hW hl1A).2 h) rfl (wkGoodV (List.mem_of_getElem? (i := 4) rfl) (List.mem_of_getElem? (i := 5) rfl) (List.mem_of_getElem? (i := 6) rfl) (List.mem_of_getElem? (i := 7) rfl) hbX11_isSoundEntry_X4_judge gdX4_judge) (Nat.le_trans (by decide : 53 + 1 ≤ 54) hd) (by decide) (wf_Witnessworks_house hW hl0A).2.1 (fun cy => wAt_4 cy _ (wf_Witnessworks_house hW hl0A).2.2) rfl ⟨by decide, by decide, by decide +kernel⟩ rfl rfl (Nat.le_of_ble_eq_true rfl) (Nat.le_refl 0) (Nat.le_refl 0) dX11_isSoundEntry_23 (fun v' S18 hp => ?_)
    obtain ⟨v17, rfl, h, hWS18, hXS18⟩ := hp
    refine wk_if_eq C (tgt := 31) dX11_isSoundEntry_26 (by decide) (fun c22 => ?_) (fun c22 => ?_)
    · rw [if_pos c22] at h
      refine wk_aload_n C dX11_isSoundEntry_31 rfl rfl ?_
      refine wk_aload_n C dX11_isSoundEntry_32 rfl rfl ?_
      refine wk_callV C hR (As := [.ref l1A]) (cnt := 1) (tX11_wouldBeCarriedSo (l := l) hst hWS18 (hXS18 _ _ hl0A) (hXS18 _ _ hl1A) h) rfl (wkGoodV (List.mem_of_getElem? (i := 8) rfl) (List.mem_of_getElem? (i := 9) rfl) (List.mem_of_getElem? (i := 10) rfl) (List.mem_of_getElem? (i := 11) rfl) hbX11_isSoundEntry_X11_wouldBeCarriedSo gdX11_wouldBeCarriedSo) (Nat.le_trans (by decide : 5 + 1 ≤ 54) hd) (by decide) (hXS18 _ _ hl0A).1 (fun cy => wAt_11 cy _ (hXS18 _ _ hl0A).2) rfl ⟨by decide, by decide, by decide +kernel⟩ rfl rfl (Nat.le_of_ble_eq_true rfl) (Nat.le_refl 0) (Nat.le_refl 0) dX11_isSoundEntry_33 (fun v' S24 hp => ?_)
      obtain ⟨v23, rfl, h, hWS24, hXS24⟩ := hp
      refine wk_if_eq C (tgt := 58) dX11_isSoundEntry_36 (by decide) (fun c28 => ?_) (fun c28 => ?_)
      · rw [if_pos c28] at h
        refine wk_iconst C (v := 1) dX11_isSoundEntry_58 (by decide) ?_
        refine wk_goto C (tgt := 63) dX11_isSoundEntry_59 (by decide) ?_
        exact E _ _ _ _ _ _ (Nat.le_refl 0) (Nat.le_refl 0) dX11_isSoundEntry_63 rfl ⟨(1 : Int32), rfl, h, hWS24, (wkExt.tr (wkExt.tr hE hXS18) hXS24)⟩
      · rw [if_neg c28] at h
        refine wk_aload_n C dX11_isSoundEntry_39 rfl rfl ?_
        refine wk_get C huX11_isSoundEntry_11 (hXS24 _ _ (hXS18 _ _ hl0A)).1 (fun cy => wAt_11 cy _ (hXS24 _ _ (hXS18 _ _ hl0A)).2) rfl 1 (by decide) (List.mem_of_getElem? (i := 12) rfl) rfl (congrArg some (congrArg va_rf (wf_Witnessworks_book hWS24 (hXS24 _ _ (hXS18 _ _ hl0A))).1)) dX11_isSoundEntry_40 ?_
        refine wk_aload_n C dX11_isSoundEntry_43 rfl rfl ?_
        refine wk_get C (v := .int (gEntry_origin S24 l1A)) huX11_isSoundEntry_3 (hXS24 _ _ (hXS18 _ _ hl1A)).1 (fun cy => wAt_3 cy _ (hXS24 _ _ (hXS18 _ _ hl1A)).2) rfl 5 (by decide) (List.mem_of_getElem? (i := 13) rfl) rfl rfl dX11_isSoundEntry_44 ?_
        obtain ⟨i29, h⟩ := h
        have w30 := wf_REntry hWS24 (wf_Witnessworks_book hWS24 (hXS24 _ _ (hXS18 _ _ hl0A))).2 (Nat.not_le.mp fun q => i29 (Or.inr q))
        refine wk_aaldEntry C (wf_Witnessworks_book hWS24 (hXS24 _ _ (hXS18 _ _ hl0A))).2.1 (wf_Witnessworks_book hWS24 (hXS24 _ _ (hXS18 _ _ hl0A))).2.2 i29 w30.1 dX11_isSoundEntry_47 ?_
        refine wk_get C (v := .int (gEntry_reply S24 (wkAd (S24.rA (wkAd (gWitnessworks_book S24 l0A)) ((gEntry_origin S24 l1A)).toNatClampNeg)))) huX11_isSoundEntry_3 w30.2.1 (fun cy => wAt_3 cy _ w30.2.2) rfl 11 (by decide) (List.mem_of_getElem? (i := 3) rfl) rfl rfl dX11_isSoundEntry_48 ?_
        refine wk_aload_n C dX11_isSoundEntry_51 rfl rfl ?_
        refine wk_get C (v := .int (gEntry_reply S24 l1A)) huX11_isSoundEntry_3 (hXS24 _ _ (hXS18 _ _ hl1A)).1 (fun cy => wAt_3 cy _ (hXS24 _ _ (hXS18 _ _ hl1A)).2) rfl 11 (by decide) (List.mem_of_getElem? (i := 3) rfl) rfl rfl dX11_isSoundEntry_52 ?_
        refine wk_icmp_ne C (tgt := 62) dX11_isSoundEntry_55 (by decide) (fun c31 => ?_) (fun c31 => ?_)
        · rw [if_neg c31] at h
          refine wk_iconst C (v := 0) dX11_isSoundEntry_62 (by decide) ?_
          exact E _ _ _ _ _ _ (Nat.le_refl 0) (Nat.le_refl 0) dX11_isSoundEntry_63 rfl ⟨(0 : Int32), rfl, h, hWS24, (wkExt.tr (wkExt.tr hE hXS18) hXS24)⟩
        · rw [if_pos c31] at h
          refine wk_iconst C (v := 1) dX11_isSoundEntry_58 (by decide) ?_
          refine wk_goto C (tgt := 63) dX11_isSoundEntry_59 (by decide) ?_
          exact E _ _ _ _ _ _ (Nat.le_refl 0) (Nat.le_refl 0) dX11_isSoundEntry_63 rfl ⟨(1 : Int32), rfl, h, hWS24, (wkExt.tr (wkExt.tr hE hXS18) hXS24)⟩
    · rw [if_neg c22] at h
      refine wk_iconst C (v := 0) dX11_isSoundEntry_29 (by decide) ?_
      exact E _ _ _ _ _ _ (Nat.le_refl 0) (Nat.le_refl 0) dX11_isSoundEntry_30 rfl ⟨(0 : Int32), rfl, h, hWS18, (wkExt.tr hE hXS18)⟩
def wvX11_isUnsoundClaim : List Cond := .code yX11_isUnsoundClaim cX11_isUnsoundClaim 4 (some .boolean) :: (([.fieldLink RX11 10 "Witnessworks" "house" "LWitnessworks$House;", .fieldLink RX11 412 "Witnessworks$Claim" "row" "LWitnessworks$Row;", .fieldLink RX11 409 "Witnessworks$Claim" "isWitness" "Z", .methodLink RX11 382 yX4_judge, .instanceMethod yX4_judge, .selects RX4 yX4_judge yX4_judge, .initialized RX4, .fieldLink RX11 18 "Witnessworks" "book" "[LWitnessworks$Entry;", .fieldLink RX11 406 "Witnessworks$Claim" "entry" "I", .fieldLink RX11 221 "Witnessworks$Entry" "reply" "C"] : List Cond) ++ ((wsX110 ++ (wsX00 ++ (wsX30))) ++ (wvX4_judge)))
theorem huX11_isUnsoundClaim_11 : ∀ w ∈ u_ws RX11 TX11 19, w ∈ wvX11_isUnsoundClaim := fun w h => List.mem_cons_of_mem _ (List.mem_append_right _ (List.mem_append_left _ (List.mem_append_left _ h)))
theorem huX11_isUnsoundClaim_0 : ∀ w ∈ u_ws RX0 TX0 4, w ∈ wvX11_isUnsoundClaim := fun w h => List.mem_cons_of_mem _ (List.mem_append_right _ (List.mem_append_left _ (List.mem_append_right _ (List.mem_append_left _ h))))
theorem huX11_isUnsoundClaim_3 : ∀ w ∈ u_ws RX3 TX3 17, w ∈ wvX11_isUnsoundClaim := fun w h => List.mem_cons_of_mem _ (List.mem_append_right _ (List.mem_append_left _ (List.mem_append_right _ (List.mem_append_right _ h))))
theorem hbX11_isUnsoundClaim_X4_judge : ∀ w ∈ wvX4_judge, w ∈ wvX11_isUnsoundClaim := fun w h => List.mem_cons_of_mem _ (List.mem_append_right _ (List.mem_append_right _ h))
theorem gdX11_isUnsoundClaim : ∀ w ∈ wvX11_isUnsoundClaim, wkGd w := wkGdC rfl (wkGdA (wkGdL (by decide +kernel)) (wkGdA (wkGdA gdX11 (wkGdA gdX0 gdX3)) gdX4_judge))
def rX11_isUnsoundClaim_b0 (F : Nat) (rec : Nat → Nat → Nat → Nat → Int32 → Int32 → wPS → (Int32 → wPS → Prop) → Prop) (l0A : Nat) (l1A : Nat) (l2A : Nat) (s0I : Int32) (s1I : Int32) (S : wPS) (Φ : (Int32 → wPS → Prop)) : Prop :=
  if s0I = s1I then (Φ (0 : Int32) S) else (rX4_judge F (wkAd (gWitnessworks_house S l0A)) l2A (wkAd (gClaim_row S l1A)) (gClaim_isWitness S l1A) S fun v2 S3 => if v2 = 0 then (Φ (1 : Int32) S3) else (Φ (0 : Int32) S3))
def rX11_isUnsoundClaim_go (F : Nat) : Nat → Nat → Nat → Nat → Nat → Int32 → Int32 → wPS → (Int32 → wPS → Prop) → Prop
  | 0, _, _, _, _, _, _, _, _ => False
  | k' + 1, lab, l0A, l1A, l2A, s0I, s1I, S, Φ => if lab = 0 then rX11_isUnsoundClaim_b0 F (rX11_isUnsoundClaim_go F k') l0A l1A l2A s0I s1I S Φ else False
def rX11_isUnsoundClaim_s (F : Nat) (rec : Nat → Nat → Nat → Nat → Int32 → Int32 → wPS → (Int32 → wPS → Prop) → Prop) (l0A : Nat) (l1A : Nat) (S : wPS) (Φ : (Int32 → wPS → Prop)) : Prop :=
  ¬ ((gClaim_entry S l1A) < 0 ∨ S.len (wkAd (gWitnessworks_book S l0A)) ≤ ((gClaim_entry S l1A)).toNatClampNeg) ∧ if (gEntry_reply S (wkAd (S.rA (wkAd (gWitnessworks_book S l0A)) ((gClaim_entry S l1A)).toNatClampNeg))) = (121 : Int32) then (rec 0 l0A l1A (wkAd (S.rA (wkAd (gWitnessworks_book S l0A)) ((gClaim_entry S l1A)).toNatClampNeg)) (gClaim_isWitness S l1A) (1 : Int32) S Φ) else (rec 0 l0A l1A (wkAd (S.rA (wkAd (gWitnessworks_book S l0A)) ((gClaim_entry S l1A)).toNatClampNeg)) (gClaim_isWitness S l1A) (0 : Int32) S Φ)
def rX11_isUnsoundClaim (F : Nat) (l0A : Nat) (l1A : Nat) (S : wPS) (Φ : (Int32 → wPS → Prop)) : Prop := rX11_isUnsoundClaim_s F (rX11_isUnsoundClaim_go F F) l0A l1A S Φ
set_option maxHeartbeats 4000000 in
set_option maxRecDepth 100000 in
theorem tX11_isUnsoundClaim_go {l : Launch} {X : wkX} {d F : Nat} {S0 : wPS} {Φ : (Int32 → wPS → Prop)} (C : wkC X cX11_isUnsoundClaim RX11 4 wvX11_isUnsoundClaim) (hR : wkRm X d 0 0) (hd : 54 ≤ d) (E : wkEnd l X cX11_isUnsoundClaim 4 (some .boolean) 0 0 (fun v' S'' => ∃ v : Int32, v' = some (.int v) ∧ Φ v S'' ∧ wkWF S'' ∧ wkExt S0 S'')) : ∀ k' : Nat, (∀ (l0A : Nat) (l1A : Nat) (l2A : Nat) (s0I : Int32) (s1I : Int32) (S : wPS), wkWF S → wkExt S0 S → wkIs S l0A 11 → wkIs S l1A 0 → wkIs S l2A 3 → rX11_isUnsoundClaim_go F k' 0 l0A l1A l2A s0I s1I S Φ → wkGo l X 4 0 0 28 S [some (.ref l0A), some (.ref l1A), some (.ref l2A), none] [.int s1I, .int s0I]) := by
  intro k'
  induction k' with
  | zero => exact fun l0A l1A l2A s0I s1I S hW hE hl0A hl1A hl2A h => h.elim
  | succ k' ih =>
    · intro l0A l1A l2A s0I s1I S hW hE hl0A hl1A hl2A h
      have h : rX11_isUnsoundClaim_b0 F (rX11_isUnsoundClaim_go F k') l0A l1A l2A s0I s1I S Φ := by
        rw [rX11_isUnsoundClaim_go, if_pos (rfl : (0 : Nat) = 0)] at h
        exact h
      unfold rX11_isUnsoundClaim_b0 at h
      refine wk_icmp_eq C (tgt := 35) dX11_isUnsoundClaim_28 (by decide) (fun c1 => ?_) (fun c1 => ?_)
      · rw [if_pos c1] at h
        refine wk_iconst C (v := 0) dX11_isUnsoundClaim_35 (by decide) ?_
        refine wk_istore_n C (lv' := [some (.ref l0A), some (.ref l1A), some (.ref l2A), some (.int (0 : Int32))]) dX11_isUnsoundClaim_36 rfl (by decide) rfl ?_
        refine wk_iload_n C dX11_isUnsoundClaim_37 rfl rfl ?_
        refine wk_if_eq C (tgt := 64) dX11_isUnsoundClaim_38 (by decide) (fun _ => ?_) (fun c => False.elim (by revert c; decide))
        refine wk_iconst C (v := 0) dX11_isUnsoundClaim_64 (by decide) ?_
        exact E _ _ _ _ _ _ (Nat.le_refl 0) (Nat.le_refl 0) dX11_isUnsoundClaim_65 rfl ⟨(0 : Int32), rfl, h, hW, hE⟩
      · rw [if_neg c1] at h
        refine wk_iconst C (v := 1) dX11_isUnsoundClaim_31 (by decide) ?_
        refine wk_goto C (tgt := 36) dX11_isUnsoundClaim_32 (by decide) ?_
        refine wk_istore_n C (lv' := [some (.ref l0A), some (.ref l1A), some (.ref l2A), some (.int (1 : Int32))]) dX11_isUnsoundClaim_36 rfl (by decide) rfl ?_
        refine wk_iload_n C dX11_isUnsoundClaim_37 rfl rfl ?_
        refine wk_if_eq C (tgt := 64) dX11_isUnsoundClaim_38 (by decide) (fun c => False.elim (by revert c; decide)) (fun _ => ?_)
        refine wk_aload_n C dX11_isUnsoundClaim_41 rfl rfl ?_
        refine wk_get C huX11_isUnsoundClaim_11 hl0A.1 (fun cy => wAt_11 cy _ hl0A.2) rfl 0 (by decide) (List.mem_of_getElem? (i := 1) rfl) rfl (congrArg some (congrArg va_rf (wf_Witnessworks_house hW hl0A).1)) dX11_isUnsoundClaim_42 ?_
        refine wk_aload_n C dX11_isUnsoundClaim_45 rfl rfl ?_
        refine wk_aload_n C dX11_isUnsoundClaim_46 rfl rfl ?_
        refine wk_get C huX11_isUnsoundClaim_0 hl1A.1 (fun cy => wAt_0 cy _ hl1A.2) rfl 3 (by decide) (List.mem_of_getElem? (i := 2) rfl) rfl (congrArg some (congrArg va_rf (wf_Claim_row hW hl1A).1)) dX11_isUnsoundClaim_47 ?_
        refine wk_aload_n C dX11_isUnsoundClaim_50 rfl rfl ?_
        refine wk_get C (v := .int (gClaim_isWitness S l1A)) huX11_isUnsoundClaim_0 hl1A.1 (fun cy => wAt_0 cy _ hl1A.2) rfl 2 (by decide) (List.mem_of_getElem? (i := 3) rfl) rfl rfl dX11_isUnsoundClaim_51 ?_
        refine wk_callV C hR (As := [.ref l2A, .ref (wkAd (gClaim_row S l1A)), .int (gClaim_isWitness S l1A)]) (cnt := 3) (tX4_judge (l := l) hW (wf_Witnessworks_house hW hl0A).2 hl2A (wf_Claim_row hW hl1A).2 h) rfl (wkGoodV (List.mem_of_getElem? (i := 4) rfl) (List.mem_of_getElem? (i := 5) rfl) (List.mem_of_getElem? (i := 6) rfl) (List.mem_of_getElem? (i := 7) rfl) hbX11_isUnsoundClaim_X4_judge gdX4_judge) (Nat.le_trans (by decide : 53 + 1 ≤ 54) hd) (by decide) (wf_Witnessworks_house hW hl0A).2.1 (fun cy => wAt_4 cy _ (wf_Witnessworks_house hW hl0A).2.2) rfl ⟨by decide, by decide, by decide +kernel⟩ rfl rfl (Nat.le_of_ble_eq_true rfl) (Nat.le_refl 0) (Nat.le_refl 0) dX11_isUnsoundClaim_54 (fun v' S3 hp => ?_)
        obtain ⟨v2, rfl, h, hWS3, hXS3⟩ := hp
        refine wk_if_ne C (tgt := 64) dX11_isUnsoundClaim_57 (by decide) (fun c7 => ?_) (fun c7 => ?_)
        · rw [if_neg c7] at h
          refine wk_iconst C (v := 0) dX11_isUnsoundClaim_64 (by decide) ?_
          exact E _ _ _ _ _ _ (Nat.le_refl 0) (Nat.le_refl 0) dX11_isUnsoundClaim_65 rfl ⟨(0 : Int32), rfl, h, hWS3, (wkExt.tr hE hXS3)⟩
        · rw [if_pos c7] at h
          refine wk_iconst C (v := 1) dX11_isUnsoundClaim_60 (by decide) ?_
          refine wk_goto C (tgt := 65) dX11_isUnsoundClaim_61 (by decide) ?_
          exact E _ _ _ _ _ _ (Nat.le_refl 0) (Nat.le_refl 0) dX11_isUnsoundClaim_65 rfl ⟨(1 : Int32), rfl, h, hWS3, (wkExt.tr hE hXS3)⟩
set_option maxHeartbeats 4000000 in
set_option maxRecDepth 100000 in
theorem tX11_isUnsoundClaim {l : Launch} {g : wkG} {F : Nat}  {S : wPS} {l0A : Nat} {l1A : Nat} {Φ : (Int32 → wPS → Prop)} (hW : wkWF S) (hl0A : wkIs S l0A 11) (hl1A : wkIs S l1A 0) (h : rX11_isUnsoundClaim F l0A l1A S Φ) : wkMet l g yX11_isUnsoundClaim wvX11_isUnsoundClaim 54 0 0 [.ref l0A, .ref l1A] S (fun v' S'' => ∃ v : Int32, v' = some (.int v) ∧ Φ v S'' ∧ wkWF S'' ∧ wkExt S S'') := by
  refine wkMet_of (ret := (some .boolean)) (by decide) rfl (Nat.le_of_ble_eq_true rfl) (fun X hg C hR E => ?_)
  subst hg
  have hE : wkExt S S := wkExt.rf
  have hd : 54 ≤ 54 := Nat.le_refl _
  show wkGo l X 4 0 0 0 S [some (.ref l0A), some (.ref l1A), none, none] []
  have ih := tX11_isUnsoundClaim_go (F := F) C hR hd E F
  have h : rX11_isUnsoundClaim_s F (rX11_isUnsoundClaim_go F F) l0A l1A S Φ := h
  unfold rX11_isUnsoundClaim_s at h
  refine wk_aload_n C dX11_isUnsoundClaim_0 rfl rfl ?_
  refine wk_get C huX11_isUnsoundClaim_11 hl0A.1 (fun cy => wAt_11 cy _ hl0A.2) rfl 1 (by decide) (List.mem_of_getElem? (i := 8) rfl) rfl (congrArg some (congrArg va_rf (wf_Witnessworks_book hW hl0A).1)) dX11_isUnsoundClaim_1 ?_
  refine wk_aload_n C dX11_isUnsoundClaim_4 rfl rfl ?_
  refine wk_get C (v := .int (gClaim_entry S l1A)) huX11_isUnsoundClaim_0 hl1A.1 (fun cy => wAt_0 cy _ hl1A.2) rfl 1 (by decide) (List.mem_of_getElem? (i := 9) rfl) rfl rfl dX11_isUnsoundClaim_5 ?_
  obtain ⟨i8, h⟩ := h
  have w9 := wf_REntry hW (wf_Witnessworks_book hW hl0A).2 (Nat.not_le.mp fun q => i8 (Or.inr q))
  refine wk_aaldEntry C (wf_Witnessworks_book hW hl0A).2.1 (wf_Witnessworks_book hW hl0A).2.2 i8 w9.1 dX11_isUnsoundClaim_8 ?_
  refine wk_astore_n C (lv' := [some (.ref l0A), some (.ref l1A), some (.ref (wkAd (S.rA (wkAd (gWitnessworks_book S l0A)) ((gClaim_entry S l1A)).toNatClampNeg))), none]) dX11_isUnsoundClaim_9 rfl (by decide) rfl ?_
  refine wk_aload_n C dX11_isUnsoundClaim_10 rfl rfl ?_
  refine wk_get C (v := .int (gClaim_isWitness S l1A)) huX11_isUnsoundClaim_0 hl1A.1 (fun cy => wAt_0 cy _ hl1A.2) rfl 2 (by decide) (List.mem_of_getElem? (i := 3) rfl) rfl rfl dX11_isUnsoundClaim_11 ?_
  refine wk_aload_n C dX11_isUnsoundClaim_14 rfl rfl ?_
  refine wk_get C (v := .int (gEntry_reply S (wkAd (S.rA (wkAd (gWitnessworks_book S l0A)) ((gClaim_entry S l1A)).toNatClampNeg)))) huX11_isUnsoundClaim_3 w9.2.1 (fun cy => wAt_3 cy _ w9.2.2) rfl 11 (by decide) (List.mem_of_getElem? (i := 10) rfl) rfl rfl dX11_isUnsoundClaim_15 ?_
  refine wk_bipush C (v := 121) dX11_isUnsoundClaim_18 (by decide) ?_
  refine wk_icmp_ne C (tgt := 27) dX11_isUnsoundClaim_20 (by decide) (fun c10 => ?_) (fun c10 => ?_)
  · rw [if_neg c10] at h
    refine wk_iconst C (v := 0) dX11_isUnsoundClaim_27 (by decide) ?_
    exact wk_forget (lv' := [some (.ref l0A), some (.ref l1A), some (.ref (wkAd (S.rA (wkAd (gWitnessworks_book S l0A)) ((gClaim_entry S l1A)).toNatClampNeg))), none]) (wkLs.le ⟨rfl, rfl, rfl, trivial⟩) (ih _ _ _ _ _ _ hW hE hl0A hl1A w9.2 h)
  · rw [if_pos c10] at h
    refine wk_iconst C (v := 1) dX11_isUnsoundClaim_23 (by decide) ?_
    refine wk_goto C (tgt := 28) dX11_isUnsoundClaim_24 (by decide) ?_
    exact wk_forget (lv' := [some (.ref l0A), some (.ref l1A), some (.ref (wkAd (S.rA (wkAd (gWitnessworks_book S l0A)) ((gClaim_entry S l1A)).toNatClampNeg))), none]) (wkLs.le ⟨rfl, rfl, rfl, trivial⟩) (ih _ _ _ _ _ _ hW hE hl0A hl1A w9.2 h)
def wvX4_solve : List Cond := .code yX4_solve cX4_solve 2 none :: (([.fieldLink RX4 64 "Witnessworks$Entry" "row" "LWitnessworks$Row;", .methodLink RX4 70 yX9_clear, .instanceMethod yX9_clear, .selects RX9 yX9_clear yX9_clear, .initialized RX9, .fieldLink RX4 75 "Witnessworks$Entry" "kind" "I", .fieldLink RX4 12 "Witnessworks$House" "networks" "LWitnessworks$Networks;", .methodLink RX4 79 yX7_solvePairings, .instanceMethod yX7_solvePairings, .selects RX7 yX7_solvePairings yX7_solvePairings, .initialized RX7, .fieldLink RX4 112 "Witnessworks$Entry" "isSolved" "Z", .fieldLink RX4 116 "Witnessworks$Entry" "boundNow" "I", .fieldLink RX4 119 "Witnessworks$Entry" "solvedBound" "I", .methodLink RX4 83 yX7_solveFlows, .instanceMethod yX7_solveFlows, .selects RX7 yX7_solveFlows yX7_solveFlows, .fieldLink RX4 21 "Witnessworks$House" "drawings" "LWitnessworks$Drawings;", .methodLink RX4 86 yX2_solve, .instanceMethod yX2_solve, .selects RX2 yX2_solve yX2_solve, .initialized RX2, .fieldLink RX4 28 "Witnessworks$House" "inequalities" "LWitnessworks$Inequalities;", .methodLink RX4 89 yX5_solve, .instanceMethod yX5_solve, .selects RX5 yX5_solve yX5_solve, .initialized RX5, .fieldLink RX4 35 "Witnessworks$House" "clauses" "LWitnessworks$Clauses;", .methodLink RX4 90 yX1_solve, .instanceMethod yX1_solve, .selects RX1 yX1_solve yX1_solve, .initialized RX1, .fieldLink RX4 42 "Witnessworks$House" "numbers" "LWitnessworks$Numbers;", .methodLink RX4 91 yX8_solveEquations, .instanceMethod yX8_solveEquations, .selects RX8 yX8_solveEquations yX8_solveEquations, .initialized RX8, .methodLink RX4 94 yX8_solvePrimes, .instanceMethod yX8_solvePrimes, .selects RX8 yX8_solvePrimes yX8_solvePrimes, .methodLink RX4 97 yX8_solveRoots, .instanceMethod yX8_solveRoots, .selects RX8 yX8_solveRoots yX8_solveRoots, .fieldLink RX4 49 "Witnessworks$House" "words" "LWitnessworks$Words;", .methodLink RX4 100 yX10_solvePermutations, .instanceMethod yX10_solvePermutations, .selects RX10 yX10_solvePermutations yX10_solvePermutations, .initialized RX10, .methodLink RX4 103 yX10_solveWords, .instanceMethod yX10_solveWords, .selects RX10 yX10_solveWords yX10_solveWords, .fieldLink RX4 56 "Witnessworks$House" "machines" "LWitnessworks$Machines;", .methodLink RX4 106 yX6_solveMachines, .instanceMethod yX6_solveMachines, .selects RX6 yX6_solveMachines yX6_solveMachines, .initialized RX6, .methodLink RX4 109 yX6_solveGames, .instanceMethod yX6_solveGames, .selects RX6 yX6_solveGames yX6_solveGames] : List Cond) ++ ((wsX30 ++ (wsX40)) ++ (wvX9_clear ++ (wvX7_solvePairings ++ (wvX7_solveFlows ++ (wvX2_solve ++ (wvX5_solve ++ (wvX1_solve ++ (wvX8_solveEquations ++ (wvX8_solvePrimes ++ (wvX8_solveRoots ++ (wvX10_solvePermutations ++ (wvX10_solveWords ++ (wvX6_solveMachines ++ (wvX6_solveGames)))))))))))))))
theorem huX4_solve_3 : ∀ w ∈ u_ws RX3 TX3 17, w ∈ wvX4_solve := fun w h => List.mem_cons_of_mem _ (List.mem_append_right _ (List.mem_append_left _ (List.mem_append_left _ h)))
theorem huX4_solve_4 : ∀ w ∈ u_ws RX4 TX4 8, w ∈ wvX4_solve := fun w h => List.mem_cons_of_mem _ (List.mem_append_right _ (List.mem_append_left _ (List.mem_append_right _ h)))
theorem hbX4_solve_X9_clear : ∀ w ∈ wvX9_clear, w ∈ wvX4_solve := fun w h => List.mem_cons_of_mem _ (List.mem_append_right _ (List.mem_append_right _ (List.mem_append_left _ h)))
theorem hbX4_solve_X7_solvePairings : ∀ w ∈ wvX7_solvePairings, w ∈ wvX4_solve := fun w h => List.mem_cons_of_mem _ (List.mem_append_right _ (List.mem_append_right _ (List.mem_append_right _ (List.mem_append_left _ h))))
theorem hbX4_solve_X7_solveFlows : ∀ w ∈ wvX7_solveFlows, w ∈ wvX4_solve := fun w h => List.mem_cons_of_mem _ (List.mem_append_right _ (List.mem_append_right _ (List.mem_append_right _ (List.mem_append_right _ (List.mem_append_left _ h)))))
theorem hbX4_solve_X2_solve : ∀ w ∈ wvX2_solve, w ∈ wvX4_solve := fun w h => List.mem_cons_of_mem _ (List.mem_append_right _ (List.mem_append_right _ (List.mem_append_right _ (List.mem_append_right _ (List.mem_append_right _ (List.mem_append_left _ h))))))
theorem hbX4_solve_X5_solve : ∀ w ∈ wvX5_solve, w ∈ wvX4_solve := fun w h => List.mem_cons_of_mem _ (List.mem_append_right _ (List.mem_append_right _ (List.mem_append_right _ (List.mem_append_right _ (List.mem_append_right _ (List.mem_append_right _ (List.mem_append_left _ h)))))))
theorem hbX4_solve_X1_solve : ∀ w ∈ wvX1_solve, w ∈ wvX4_solve := fun w h => List.mem_cons_of_mem _ (List.mem_append_right _ (List.mem_append_right _ (List.mem_append_right _ (List.mem_append_right _ (List.mem_append_right _ (List.mem_append_right _ (List.mem_append_right _ (List.mem_append_left _ h))))))))
theorem hbX4_solve_X8_solveEquations : ∀ w ∈ wvX8_solveEquations, w ∈ wvX4_solve := fun w h => List.mem_cons_of_mem _ (List.mem_append_right _ (List.mem_append_right _ (List.mem_append_right _ (List.mem_append_right _ (List.mem_append_right _ (List.mem_append_right _ (List.mem_append_right _ (List.mem_append_right _ (List.mem_append_left _ h)))))))))
theorem hbX4_solve_X8_solvePrimes : ∀ w ∈ wvX8_solvePrimes, w ∈ wvX4_solve := fun w h => List.mem_cons_of_mem _ (List.mem_append_right _ (List.mem_append_right _ (List.mem_append_right _ (List.mem_append_right _ (List.mem_append_right _ (List.mem_append_right _ (List.mem_append_right _ (List.mem_append_right _ (List.mem_append_right _ (List.mem_append_left _ h))))))))))
theorem hbX4_solve_X8_solveRoots : ∀ w ∈ wvX8_solveRoots, w ∈ wvX4_solve := fun w h => List.mem_cons_of_mem _ (List.mem_append_right _ (List.mem_append_right _ (List.mem_append_right _ (List.mem_append_right _ (List.mem_append_right _ (List.mem_append_right _ (List.mem_append_right _ (List.mem_append_right _ (List.mem_append_right _ (List.mem_append_right _ (List.mem_append_left _ h)))))))))))
theorem hbX4_solve_X10_solvePermutations : ∀ w ∈ wvX10_solvePermutations, w ∈ wvX4_solve := fun w h => List.mem_cons_of_mem _ (List.mem_append_right _ (List.mem_append_right _ (List.mem_append_right _ (List.mem_append_right _ (List.mem_append_right _ (List.mem_append_right _ (List.mem_append_right _ (List.mem_append_right _ (List.mem_append_right _ (List.mem_append_right _ (List.mem_append_right _ (List.mem_append_left _ h))))))))))))
theorem hbX4_solve_X10_solveWords : ∀ w ∈ wvX10_solveWords, w ∈ wvX4_solve := fun w h => List.mem_cons_of_mem _ (List.mem_append_right _ (List.mem_append_right _ (List.mem_append_right _ (List.mem_append_right _ (List.mem_append_right _ (List.mem_append_right _ (List.mem_append_right _ (List.mem_append_right _ (List.mem_append_right _ (List.mem_append_right _ (List.mem_append_right _ (List.mem_append_right _ (List.mem_append_left _ h)))))))))))))
theorem hbX4_solve_X6_solveMachines : ∀ w ∈ wvX6_solveMachines, w ∈ wvX4_solve := fun w h => List.mem_cons_of_mem _ (List.mem_append_right _ (List.mem_append_right _ (List.mem_append_right _ (List.mem_append_right _ (List.mem_append_right _ (List.mem_append_right _ (List.mem_append_right _ (List.mem_append_right _ (List.mem_append_right _ (List.mem_append_right _ (List.mem_append_right _ (List.mem_append_right _ (List.mem_append_right _ (List.mem_append_left _ h))))))))))))))
theorem hbX4_solve_X6_solveGames : ∀ w ∈ wvX6_solveGames, w ∈ wvX4_solve := fun w h => List.mem_cons_of_mem _ (List.mem_append_right _ (List.mem_append_right _ (List.mem_append_right _ (List.mem_append_right _ (List.mem_append_right _ (List.mem_append_right _ (List.mem_append_right _ (List.mem_append_right _ (List.mem_append_right _ (List.mem_append_right _ (List.mem_append_right _ (List.mem_append_right _ (List.mem_append_right _ (List.mem_append_right _ h))))))))))))))
theorem gdX4_solve : ∀ w ∈ wvX4_solve, wkGd w := wkGdC rfl (wkGdA (wkGdL (by decide +kernel)) (wkGdA (wkGdA gdX3 gdX4) (wkGdA gdX9_clear (wkGdA gdX7_solvePairings (wkGdA gdX7_solveFlows (wkGdA gdX2_solve (wkGdA gdX5_solve (wkGdA gdX1_solve (wkGdA gdX8_solveEquations (wkGdA gdX8_solvePrimes (wkGdA gdX8_solveRoots (wkGdA gdX10_solvePermutations (wkGdA gdX10_solveWords (wkGdA gdX6_solveMachines gdX6_solveGames))))))))))))))
def rX4_solve (F : Nat) (k n : Nat) (l0A : Nat) (l1A : Nat) (S : wPS) (Φ : (Unit → wPS → Prop)) : Prop :=
  rX9_clear F (wkAd (gEntry_row S l1A)) S fun v1 S2 => if (gEntry_kind S2 l1A) = 0 then (∃ k11 n12 : Nat, 0 + k11 ≤ k ∧ 0 + n12 ≤ n ∧ rX7_solvePairings F k11 n12 (wkAd (gHouse_networks S2 l0A)) l1A S2 fun v8 S9 => wkLt (wu_Entry_isSolved S9 l1A (1 : Int32)) fun S13 => wkLt (wu_Entry_solvedBound S13 l1A (gEntry_boundNow S13 l1A)) fun S14 => Φ () S14) else if (gEntry_kind S2 l1A) = 1 then (∃ k19 n20 : Nat, 0 + k19 ≤ k ∧ 0 + n20 ≤ n ∧ rX7_solveFlows F k19 n20 (wkAd (gHouse_networks S2 l0A)) l1A S2 fun v16 S17 => wkLt (wu_Entry_isSolved S17 l1A (1 : Int32)) fun S21 => wkLt (wu_Entry_solvedBound S21 l1A (gEntry_boundNow S21 l1A)) fun S22 => Φ () S22) else if (gEntry_kind S2 l1A) = 2 then (∃ k27 n28 : Nat, 0 + k27 ≤ k ∧ 0 + n28 ≤ n ∧ rX2_solve F k27 n28 (wkAd (gHouse_drawings S2 l0A)) l1A S2 fun v24 S25 => wkLt (wu_Entry_isSolved S25 l1A (1 : Int32)) fun S29 => wkLt (wu_Entry_solvedBound S29 l1A (gEntry_boundNow S29 l1A)) fun S30 => Φ () S30) else if (gEntry_kind S2 l1A) = 3 then (∃ k35 n36 : Nat, 0 + k35 ≤ k ∧ 0 + n36 ≤ n ∧ rX5_solve F k35 n36 (wkAd (gHouse_inequalities S2 l0A)) l1A S2 fun v32 S33 => wkLt (wu_Entry_isSolved S33 l1A (1 : Int32)) fun S37 => wkLt (wu_Entry_solvedBound S37 l1A (gEntry_boundNow S37 l1A)) fun S38 => Φ () S38) else if (gEntry_kind S2 l1A) = 4 then (∃ k43 n44 : Nat, 0 + k43 ≤ k ∧ 0 + n44 ≤ n ∧ rX1_solve F k43 n44 (wkAd (gHouse_clauses S2 l0A)) l1A S2 fun v40 S41 => wkLt (wu_Entry_isSolved S41 l1A (1 : Int32)) fun S45 => wkLt (wu_Entry_solvedBound S45 l1A (gEntry_boundNow S45 l1A)) fun S46 => Φ () S46) else if (gEntry_kind S2 l1A) = 5 then (∃ k51 n52 : Nat, 0 + k51 ≤ k ∧ 0 + n52 ≤ n ∧ rX8_solveEquations F k51 n52 (wkAd (gHouse_numbers S2 l0A)) l1A S2 fun v48 S49 => wkLt (wu_Entry_isSolved S49 l1A (1 : Int32)) fun S53 => wkLt (wu_Entry_solvedBound S53 l1A (gEntry_boundNow S53 l1A)) fun S54 => Φ () S54) else if (gEntry_kind S2 l1A) = 6 then (∃ k59 n60 : Nat, 0 + k59 ≤ k ∧ 0 + n60 ≤ n ∧ rX8_solvePrimes F k59 n60 (wkAd (gHouse_numbers S2 l0A)) l1A S2 fun v56 S57 => wkLt (wu_Entry_isSolved S57 l1A (1 : Int32)) fun S61 => wkLt (wu_Entry_solvedBound S61 l1A (gEntry_boundNow S61 l1A)) fun S62 => Φ () S62) else if (gEntry_kind S2 l1A) = 7 then (∃ k67 n68 : Nat, 0 + k67 ≤ k ∧ 0 + n68 ≤ n ∧ rX8_solveRoots F k67 n68 (wkAd (gHouse_numbers S2 l0A)) l1A S2 fun v64 S65 => wkLt (wu_Entry_isSolved S65 l1A (1 : Int32)) fun S69 => wkLt (wu_Entry_solvedBound S69 l1A (gEntry_boundNow S69 l1A)) fun S70 => Φ () S70) else if (gEntry_kind S2 l1A) = 8 then (∃ k75 n76 : Nat, 0 + k75 ≤ k ∧ 0 + n76 ≤ n ∧ rX10_solvePermutations F k75 n76 (wkAd (gHouse_words S2 l0A)) l1A S2 fun v72 S73 => wkLt (wu_Entry_isSolved S73 l1A (1 : Int32)) fun S77 => wkLt (wu_Entry_solvedBound S77 l1A (gEntry_boundNow S77 l1A)) fun S78 => Φ () S78) else if (gEntry_kind S2 l1A) = 9 then (∃ k83 n84 : Nat, 0 + k83 ≤ k ∧ 0 + n84 ≤ n ∧ rX10_solveWords F k83 n84 (wkAd (gHouse_words S2 l0A)) l1A S2 fun v80 S81 => wkLt (wu_Entry_isSolved S81 l1A (1 : Int32)) fun S85 => wkLt (wu_Entry_solvedBound S85 l1A (gEntry_boundNow S85 l1A)) fun S86 => Φ () S86) else if (gEntry_kind S2 l1A) = 10 then (∃ k91 n92 : Nat, 0 + k91 ≤ k ∧ 0 + n92 ≤ n ∧ rX6_solveMachines F k91 n92 (wkAd (gHouse_machines S2 l0A)) l1A S2 fun v88 S89 => wkLt (wu_Entry_isSolved S89 l1A (1 : Int32)) fun S93 => wkLt (wu_Entry_solvedBound S93 l1A (gEntry_boundNow S93 l1A)) fun S94 => Φ () S94) else (∃ k98 n99 : Nat, 0 + k98 ≤ k ∧ 0 + n99 ≤ n ∧ rX6_solveGames F k98 n99 (wkAd (gHouse_machines S2 l0A)) l1A S2 fun v95 S96 => wkLt (wu_Entry_isSolved S96 l1A (1 : Int32)) fun S100 => wkLt (wu_Entry_solvedBound S100 l1A (gEntry_boundNow S100 l1A)) fun S101 => Φ () S101)
set_option maxHeartbeats 4000000 in
set_option maxRecDepth 100000 in
theorem tX4_solve {l : Launch} {g : wkG} {F : Nat} {k n : Nat}  {S : wPS} {l0A : Nat} {l1A : Nat} {Φ : (Unit → wPS → Prop)} (hW : wkWF S) (hl0A : wkIs S l0A 4) (hl1A : wkIs S l1A 3) (h : rX4_solve F k n l0A l1A S Φ) : wkMet l g yX4_solve wvX4_solve 54 k n [.ref l0A, .ref l1A] S (fun v' S'' => ∃ v : Unit, v' = none ∧ Φ v S'' ∧ wkWF S'' ∧ wkExt S S'') := by
  refine wkMet_of (ret := none) (by decide) rfl (Nat.le_of_ble_eq_true rfl) (fun X hg C hR E => ?_)
  subst hg
  have hE : wkExt S S := wkExt.rf
  have hd : 54 ≤ 54 := Nat.le_refl _
  show wkGo l X 2 0 0 0 S [some (.ref l0A), some (.ref l1A)] []
  unfold rX4_solve at h
  refine wk_aload_n C dX4_solve_0 rfl rfl ?_
  refine wk_get C huX4_solve_3 hl1A.1 (fun cy => wAt_3 cy _ hl1A.2) rfl 13 (by decide) (List.mem_of_getElem? (i := 1) rfl) rfl (congrArg some (congrArg va_rf (wf_Entry_row hW hl1A).1)) dX4_solve_1 ?_
  refine wk_callV C hR (As := []) (cnt := 0) (tX9_clear (l := l) hW (wf_Entry_row hW hl1A).2 h) rfl (wkGoodV (List.mem_of_getElem? (i := 2) rfl) (List.mem_of_getElem? (i := 3) rfl) (List.mem_of_getElem? (i := 4) rfl) (List.mem_of_getElem? (i := 5) rfl) hbX4_solve_X9_clear gdX9_clear) (Nat.le_trans (by decide : 0 + 1 ≤ 54) hd) (by decide) (wf_Entry_row hW hl1A).2.1 (fun cy => wAt_9 cy _ (wf_Entry_row hW hl1A).2.2) rfl ⟨by decide, by decide, by decide +kernel⟩ rfl rfl (Nat.le_of_ble_eq_true rfl) (Nat.zero_le _) (Nat.zero_le _) dX4_solve_4 (fun v' S2 hp => ?_)
  obtain ⟨v1, rfl, h, hWS2, hXS2⟩ := hp
  refine wk_aload_n C dX4_solve_7 rfl rfl ?_
  refine wk_get C (v := .int (gEntry_kind S2 l1A)) huX4_solve_3 (hXS2 _ _ hl1A).1 (fun cy => wAt_3 cy _ (hXS2 _ _ hl1A).2) rfl 0 (by decide) (List.mem_of_getElem? (i := 6) rfl) rfl rfl dX4_solve_8 ?_
  by_cases c7 : (gEntry_kind S2 l1A) = 0
  · rw [if_pos c7] at h
    rw [c7]
    refine wk_tabIn C (tgt := 68) (off := 57) dX4_solve_11 (by decide) (by decide) (by decide) (by decide) ?_
    refine wk_aload_n C dX4_solve_68 rfl rfl ?_
    refine wk_get C huX4_solve_4 (hXS2 _ _ hl0A).1 (fun cy => wAt_4 cy _ (hXS2 _ _ hl0A).2) rfl 0 (by decide) (List.mem_of_getElem? (i := 7) rfl) rfl (congrArg some (congrArg va_rf (wf_House_networks hWS2 (hXS2 _ _ hl0A)).1)) dX4_solve_69 ?_
    refine wk_aload_n C dX4_solve_72 rfl rfl ?_
    obtain ⟨k11, n12, hk11, hn12, h⟩ := h
    refine wk_callV C hR (As := [.ref l1A]) (cnt := 1) (tX7_solvePairings (l := l) hWS2 (wf_House_networks hWS2 (hXS2 _ _ hl0A)).2 (hXS2 _ _ hl1A) h) rfl (wkGoodV (List.mem_of_getElem? (i := 8) rfl) (List.mem_of_getElem? (i := 9) rfl) (List.mem_of_getElem? (i := 10) rfl) (List.mem_of_getElem? (i := 11) rfl) hbX4_solve_X7_solvePairings gdX7_solvePairings) (Nat.le_trans (by decide : 4 + 1 ≤ 54) hd) (by decide) (wf_House_networks hWS2 (hXS2 _ _ hl0A)).2.1 (fun cy => wAt_7 cy _ (wf_House_networks hWS2 (hXS2 _ _ hl0A)).2.2) rfl ⟨by decide, by decide, by decide +kernel⟩ rfl rfl (Nat.le_of_ble_eq_true rfl) hk11 hn12 dX4_solve_73 (fun v' S9 hp => ?_)
    obtain ⟨v8, rfl, h, hWS9, hXS9⟩ := hp
    refine wk_goto C (tgt := 197) dX4_solve_76 (by decide) ?_
    refine wk_aload_n C dX4_solve_197 rfl rfl ?_
    refine wk_iconst C (v := 1) dX4_solve_198 (by decide) ?_
    obtain ⟨S13, eS13, h⟩ := wkLt_some h
    refine wk_put C (S' := S13) huX4_solve_3 (hXS9 _ _ (hXS2 _ _ hl1A)).1 (fun cy => wAt_3 cy _ (hXS9 _ _ (hXS2 _ _ hl1A)).2) rfl 9 (by decide) (List.mem_of_getElem? (i := 12) rfl) rfl tyX3_ok nmX3 rfl (ty := .boolean) rfl rfl rfl (by show 9 < 17; decide) (fun cy b => by rw [eS13]; exact wSt_3_9 cy _ (hXS9 _ _ (hXS2 _ _ hl1A)).2 _ b) (by rw [eS13]) dX4_solve_199 ?_
    have hWS13 : wkWF S13 := by rw [eS13]; exact hWS9
    have hXS13 : wkExt S9 S13 := by rw [eS13]; exact wkExt.rf
    refine wk_aload_n C dX4_solve_202 rfl rfl ?_
    refine wk_aload_n C dX4_solve_203 rfl rfl ?_
    refine wk_get C (v := .int (gEntry_boundNow S13 l1A)) huX4_solve_3 (hXS13 _ _ (hXS9 _ _ (hXS2 _ _ hl1A))).1 (fun cy => wAt_3 cy _ (hXS13 _ _ (hXS9 _ _ (hXS2 _ _ hl1A))).2) rfl 8 (by decide) (List.mem_of_getElem? (i := 13) rfl) rfl rfl dX4_solve_204 ?_
    obtain ⟨S14, eS14, h⟩ := wkLt_some h
    refine wk_put C (S' := S14) huX4_solve_3 (hXS13 _ _ (hXS9 _ _ (hXS2 _ _ hl1A))).1 (fun cy => wAt_3 cy _ (hXS13 _ _ (hXS9 _ _ (hXS2 _ _ hl1A))).2) rfl 10 (by decide) (List.mem_of_getElem? (i := 14) rfl) rfl tyX3_ok nmX3 rfl (ty := .int) rfl rfl rfl (by show 10 < 17; decide) (fun cy b => by rw [eS14]; exact wSt_3_10 cy _ (hXS13 _ _ (hXS9 _ _ (hXS2 _ _ hl1A))).2 _ b) (by rw [eS14]) dX4_solve_207 ?_
    have hWS14 : wkWF S14 := by rw [eS14]; exact hWS13
    have hXS14 : wkExt S13 S14 := by rw [eS14]; exact wkExt.rf
    exact E _ _ _ _ _ hk11 hn12 dX4_solve_210 ⟨(), rfl, h, hWS14, (wkExt.tr (wkExt.tr (wkExt.tr (wkExt.tr hE hXS2) hXS9) hXS13) hXS14)⟩
  · rw [if_neg c7] at h
    by_cases c15 : (gEntry_kind S2 l1A) = 1
    · rw [if_pos c15] at h
      rw [c15]
      refine wk_tabIn C (tgt := 79) (off := 68) dX4_solve_11 (by decide) (by decide) (by decide) (by decide) ?_
      refine wk_aload_n C dX4_solve_79 rfl rfl ?_
      refine wk_get C huX4_solve_4 (hXS2 _ _ hl0A).1 (fun cy => wAt_4 cy _ (hXS2 _ _ hl0A).2) rfl 0 (by decide) (List.mem_of_getElem? (i := 7) rfl) rfl (congrArg some (congrArg va_rf (wf_House_networks hWS2 (hXS2 _ _ hl0A)).1)) dX4_solve_80 ?_
      refine wk_aload_n C dX4_solve_83 rfl rfl ?_
      obtain ⟨k19, n20, hk19, hn20, h⟩ := h
      refine wk_callV C hR (As := [.ref l1A]) (cnt := 1) (tX7_solveFlows (l := l) hWS2 (wf_House_networks hWS2 (hXS2 _ _ hl0A)).2 (hXS2 _ _ hl1A) h) rfl (wkGoodV (List.mem_of_getElem? (i := 15) rfl) (List.mem_of_getElem? (i := 16) rfl) (List.mem_of_getElem? (i := 17) rfl) (List.mem_of_getElem? (i := 11) rfl) hbX4_solve_X7_solveFlows gdX7_solveFlows) (Nat.le_trans (by decide : 4 + 1 ≤ 54) hd) (by decide) (wf_House_networks hWS2 (hXS2 _ _ hl0A)).2.1 (fun cy => wAt_7 cy _ (wf_House_networks hWS2 (hXS2 _ _ hl0A)).2.2) rfl ⟨by decide, by decide, by decide +kernel⟩ rfl rfl (Nat.le_of_ble_eq_true rfl) hk19 hn20 dX4_solve_84 (fun v' S17 hp => ?_)
      obtain ⟨v16, rfl, h, hWS17, hXS17⟩ := hp
      refine wk_goto C (tgt := 197) dX4_solve_87 (by decide) ?_
      refine wk_aload_n C dX4_solve_197 rfl rfl ?_
      refine wk_iconst C (v := 1) dX4_solve_198 (by decide) ?_
      obtain ⟨S21, eS21, h⟩ := wkLt_some h
      refine wk_put C (S' := S21) huX4_solve_3 (hXS17 _ _ (hXS2 _ _ hl1A)).1 (fun cy => wAt_3 cy _ (hXS17 _ _ (hXS2 _ _ hl1A)).2) rfl 9 (by decide) (List.mem_of_getElem? (i := 12) rfl) rfl tyX3_ok nmX3 rfl (ty := .boolean) rfl rfl rfl (by show 9 < 17; decide) (fun cy b => by rw [eS21]; exact wSt_3_9 cy _ (hXS17 _ _ (hXS2 _ _ hl1A)).2 _ b) (by rw [eS21]) dX4_solve_199 ?_
      have hWS21 : wkWF S21 := by rw [eS21]; exact hWS17
      have hXS21 : wkExt S17 S21 := by rw [eS21]; exact wkExt.rf
      refine wk_aload_n C dX4_solve_202 rfl rfl ?_
      refine wk_aload_n C dX4_solve_203 rfl rfl ?_
      refine wk_get C (v := .int (gEntry_boundNow S21 l1A)) huX4_solve_3 (hXS21 _ _ (hXS17 _ _ (hXS2 _ _ hl1A))).1 (fun cy => wAt_3 cy _ (hXS21 _ _ (hXS17 _ _ (hXS2 _ _ hl1A))).2) rfl 8 (by decide) (List.mem_of_getElem? (i := 13) rfl) rfl rfl dX4_solve_204 ?_
      obtain ⟨S22, eS22, h⟩ := wkLt_some h
      refine wk_put C (S' := S22) huX4_solve_3 (hXS21 _ _ (hXS17 _ _ (hXS2 _ _ hl1A))).1 (fun cy => wAt_3 cy _ (hXS21 _ _ (hXS17 _ _ (hXS2 _ _ hl1A))).2) rfl 10 (by decide) (List.mem_of_getElem? (i := 14) rfl) rfl tyX3_ok nmX3 rfl (ty := .int) rfl rfl rfl (by show 10 < 17; decide) (fun cy b => by rw [eS22]; exact wSt_3_10 cy _ (hXS21 _ _ (hXS17 _ _ (hXS2 _ _ hl1A))).2 _ b) (by rw [eS22]) dX4_solve_207 ?_
      have hWS22 : wkWF S22 := by rw [eS22]; exact hWS21
      have hXS22 : wkExt S21 S22 := by rw [eS22]; exact wkExt.rf
      exact E _ _ _ _ _ hk19 hn20 dX4_solve_210 ⟨(), rfl, h, hWS22, (wkExt.tr (wkExt.tr (wkExt.tr (wkExt.tr hE hXS2) hXS17) hXS21) hXS22)⟩
    · rw [if_neg c15] at h
      by_cases c23 : (gEntry_kind S2 l1A) = 2
      · rw [if_pos c23] at h
        rw [c23]
        refine wk_tabIn C (tgt := 90) (off := 79) dX4_solve_11 (by decide) (by decide) (by decide) (by decide) ?_
        refine wk_aload_n C dX4_solve_90 rfl rfl ?_
        refine wk_get C huX4_solve_4 (hXS2 _ _ hl0A).1 (fun cy => wAt_4 cy _ (hXS2 _ _ hl0A).2) rfl 1 (by decide) (List.mem_of_getElem? (i := 18) rfl) rfl (congrArg some (congrArg va_rf (wf_House_drawings hWS2 (hXS2 _ _ hl0A)).1)) dX4_solve_91 ?_
        refine wk_aload_n C dX4_solve_94 rfl rfl ?_
        obtain ⟨k27, n28, hk27, hn28, h⟩ := h
        refine wk_callV C hR (As := [.ref l1A]) (cnt := 1) (tX2_solve (l := l) hWS2 (wf_House_drawings hWS2 (hXS2 _ _ hl0A)).2 (hXS2 _ _ hl1A) h) rfl (wkGoodV (List.mem_of_getElem? (i := 19) rfl) (List.mem_of_getElem? (i := 20) rfl) (List.mem_of_getElem? (i := 21) rfl) (List.mem_of_getElem? (i := 22) rfl) hbX4_solve_X2_solve gdX2_solve) (Nat.le_trans (by decide : 53 + 1 ≤ 54) hd) (by decide) (wf_House_drawings hWS2 (hXS2 _ _ hl0A)).2.1 (fun cy => wAt_2 cy _ (wf_House_drawings hWS2 (hXS2 _ _ hl0A)).2.2) rfl ⟨by decide, by decide, by decide +kernel⟩ rfl rfl (Nat.le_of_ble_eq_true rfl) hk27 hn28 dX4_solve_95 (fun v' S25 hp => ?_)
        obtain ⟨v24, rfl, h, hWS25, hXS25⟩ := hp
        refine wk_goto C (tgt := 197) dX4_solve_98 (by decide) ?_
        refine wk_aload_n C dX4_solve_197 rfl rfl ?_
        refine wk_iconst C (v := 1) dX4_solve_198 (by decide) ?_
        obtain ⟨S29, eS29, h⟩ := wkLt_some h
        refine wk_put C (S' := S29) huX4_solve_3 (hXS25 _ _ (hXS2 _ _ hl1A)).1 (fun cy => wAt_3 cy _ (hXS25 _ _ (hXS2 _ _ hl1A)).2) rfl 9 (by decide) (List.mem_of_getElem? (i := 12) rfl) rfl tyX3_ok nmX3 rfl (ty := .boolean) rfl rfl rfl (by show 9 < 17; decide) (fun cy b => by rw [eS29]; exact wSt_3_9 cy _ (hXS25 _ _ (hXS2 _ _ hl1A)).2 _ b) (by rw [eS29]) dX4_solve_199 ?_
        have hWS29 : wkWF S29 := by rw [eS29]; exact hWS25
        have hXS29 : wkExt S25 S29 := by rw [eS29]; exact wkExt.rf
        refine wk_aload_n C dX4_solve_202 rfl rfl ?_
        refine wk_aload_n C dX4_solve_203 rfl rfl ?_
        refine wk_get C (v := .int (gEntry_boundNow S29 l1A)) huX4_solve_3 (hXS29 _ _ (hXS25 _ _ (hXS2 _ _ hl1A))).1 (fun cy => wAt_3 cy _ (hXS29 _ _ (hXS25 _ _ (hXS2 _ _ hl1A))).2) rfl 8 (by decide) (List.mem_of_getElem? (i := 13) rfl) rfl rfl dX4_solve_204 ?_
        obtain ⟨S30, eS30, h⟩ := wkLt_some h
        refine wk_put C (S' := S30) huX4_solve_3 (hXS29 _ _ (hXS25 _ _ (hXS2 _ _ hl1A))).1 (fun cy => wAt_3 cy _ (hXS29 _ _ (hXS25 _ _ (hXS2 _ _ hl1A))).2) rfl 10 (by decide) (List.mem_of_getElem? (i := 14) rfl) rfl tyX3_ok nmX3 rfl (ty := .int) rfl rfl rfl (by show 10 < 17; decide) (fun cy b => by rw [eS30]; exact wSt_3_10 cy _ (hXS29 _ _ (hXS25 _ _ (hXS2 _ _ hl1A))).2 _ b) (by rw [eS30]) dX4_solve_207 ?_
        have hWS30 : wkWF S30 := by rw [eS30]; exact hWS29
        have hXS30 : wkExt S29 S30 := by rw [eS30]; exact wkExt.rf
        exact E _ _ _ _ _ hk27 hn28 dX4_solve_210 ⟨(), rfl, h, hWS30, (wkExt.tr (wkExt.tr (wkExt.tr (wkExt.tr hE hXS2) hXS25) hXS29) hXS30)⟩
      · rw [if_neg c23] at h
        by_cases c31 : (gEntry_kind S2 l1A) = 3
        · rw [if_pos c31] at h
          rw [c31]
          refine wk_tabIn C (tgt := 101) (off := 90) dX4_solve_11 (by decide) (by decide) (by decide) (by decide) ?_
          refine wk_aload_n C dX4_solve_101 rfl rfl ?_
          refine wk_get C huX4_solve_4 (hXS2 _ _ hl0A).1 (fun cy => wAt_4 cy _ (hXS2 _ _ hl0A).2) rfl 2 (by decide) (List.mem_of_getElem? (i := 23) rfl) rfl (congrArg some (congrArg va_rf (wf_House_inequalities hWS2 (hXS2 _ _ hl0A)).1)) dX4_solve_102 ?_
          refine wk_aload_n C dX4_solve_105 rfl rfl ?_
          obtain ⟨k35, n36, hk35, hn36, h⟩ := h
          refine wk_callV C hR (As := [.ref l1A]) (cnt := 1) (tX5_solve (l := l) hWS2 (wf_House_inequalities hWS2 (hXS2 _ _ hl0A)).2 (hXS2 _ _ hl1A) h) rfl (wkGoodV (List.mem_of_getElem? (i := 24) rfl) (List.mem_of_getElem? (i := 25) rfl) (List.mem_of_getElem? (i := 26) rfl) (List.mem_of_getElem? (i := 27) rfl) hbX4_solve_X5_solve gdX5_solve) (Nat.le_trans (by decide : 5 + 1 ≤ 54) hd) (by decide) (wf_House_inequalities hWS2 (hXS2 _ _ hl0A)).2.1 (fun cy => wAt_5 cy _ (wf_House_inequalities hWS2 (hXS2 _ _ hl0A)).2.2) rfl ⟨by decide, by decide, by decide +kernel⟩ rfl rfl (Nat.le_of_ble_eq_true rfl) hk35 hn36 dX4_solve_106 (fun v' S33 hp => ?_)
          obtain ⟨v32, rfl, h, hWS33, hXS33⟩ := hp
          refine wk_goto C (tgt := 197) dX4_solve_109 (by decide) ?_
          refine wk_aload_n C dX4_solve_197 rfl rfl ?_
          refine wk_iconst C (v := 1) dX4_solve_198 (by decide) ?_
          obtain ⟨S37, eS37, h⟩ := wkLt_some h
          refine wk_put C (S' := S37) huX4_solve_3 (hXS33 _ _ (hXS2 _ _ hl1A)).1 (fun cy => wAt_3 cy _ (hXS33 _ _ (hXS2 _ _ hl1A)).2) rfl 9 (by decide) (List.mem_of_getElem? (i := 12) rfl) rfl tyX3_ok nmX3 rfl (ty := .boolean) rfl rfl rfl (by show 9 < 17; decide) (fun cy b => by rw [eS37]; exact wSt_3_9 cy _ (hXS33 _ _ (hXS2 _ _ hl1A)).2 _ b) (by rw [eS37]) dX4_solve_199 ?_
          have hWS37 : wkWF S37 := by rw [eS37]; exact hWS33
          have hXS37 : wkExt S33 S37 := by rw [eS37]; exact wkExt.rf
          refine wk_aload_n C dX4_solve_202 rfl rfl ?_
          refine wk_aload_n C dX4_solve_203 rfl rfl ?_
          refine wk_get C (v := .int (gEntry_boundNow S37 l1A)) huX4_solve_3 (hXS37 _ _ (hXS33 _ _ (hXS2 _ _ hl1A))).1 (fun cy => wAt_3 cy _ (hXS37 _ _ (hXS33 _ _ (hXS2 _ _ hl1A))).2) rfl 8 (by decide) (List.mem_of_getElem? (i := 13) rfl) rfl rfl dX4_solve_204 ?_
          obtain ⟨S38, eS38, h⟩ := wkLt_some h
          refine wk_put C (S' := S38) huX4_solve_3 (hXS37 _ _ (hXS33 _ _ (hXS2 _ _ hl1A))).1 (fun cy => wAt_3 cy _ (hXS37 _ _ (hXS33 _ _ (hXS2 _ _ hl1A))).2) rfl 10 (by decide) (List.mem_of_getElem? (i := 14) rfl) rfl tyX3_ok nmX3 rfl (ty := .int) rfl rfl rfl (by show 10 < 17; decide) (fun cy b => by rw [eS38]; exact wSt_3_10 cy _ (hXS37 _ _ (hXS33 _ _ (hXS2 _ _ hl1A))).2 _ b) (by rw [eS38]) dX4_solve_207 ?_
          have hWS38 : wkWF S38 := by rw [eS38]; exact hWS37
          have hXS38 : wkExt S37 S38 := by rw [eS38]; exact wkExt.rf
          exact E _ _ _ _ _ hk35 hn36 dX4_solve_210 ⟨(), rfl, h, hWS38, (wkExt.tr (wkExt.tr (wkExt.tr (wkExt.tr hE hXS2) hXS33) hXS37) hXS38)⟩
        · rw [if_neg c31] at h
          by_cases c39 : (gEntry_kind S2 l1A) = 4
          · rw [if_pos c39] at h
            rw [c39]
            refine wk_tabIn C (tgt := 112) (off := 101) dX4_solve_11 (by decide) (by decide) (by decide) (by decide) ?_
            refine wk_aload_n C dX4_solve_112 rfl rfl ?_
            refine wk_get C huX4_solve_4 (hXS2 _ _ hl0A).1 (fun cy => wAt_4 cy _ (hXS2 _ _ hl0A).2) rfl 3 (by decide) (List.mem_of_getElem? (i := 28) rfl) rfl (congrArg some (congrArg va_rf (wf_House_clauses hWS2 (hXS2 _ _ hl0A)).1)) dX4_solve_113 ?_
            refine wk_aload_n C dX4_solve_116 rfl rfl ?_
            obtain ⟨k43, n44, hk43, hn44, h⟩ := h
            refine wk_callV C hR (As := [.ref l1A]) (cnt := 1) (tX1_solve (l := l) hWS2 (wf_House_clauses hWS2 (hXS2 _ _ hl0A)).2 (hXS2 _ _ hl1A) h) rfl (wkGoodV (List.mem_of_getElem? (i := 29) rfl) (List.mem_of_getElem? (i := 30) rfl) (List.mem_of_getElem? (i := 31) rfl) (List.mem_of_getElem? (i := 32) rfl) hbX4_solve_X1_solve gdX1_solve) (Nat.le_trans (by decide : 4 + 1 ≤ 54) hd) (by decide) (wf_House_clauses hWS2 (hXS2 _ _ hl0A)).2.1 (fun cy => wAt_1 cy _ (wf_House_clauses hWS2 (hXS2 _ _ hl0A)).2.2) rfl ⟨by decide, by decide, by decide +kernel⟩ rfl rfl (Nat.le_of_ble_eq_true rfl) hk43 hn44 dX4_solve_117 (fun v' S41 hp => ?_)
            obtain ⟨v40, rfl, h, hWS41, hXS41⟩ := hp
            refine wk_goto C (tgt := 197) dX4_solve_120 (by decide) ?_
            refine wk_aload_n C dX4_solve_197 rfl rfl ?_
            refine wk_iconst C (v := 1) dX4_solve_198 (by decide) ?_
            obtain ⟨S45, eS45, h⟩ := wkLt_some h
            refine wk_put C (S' := S45) huX4_solve_3 (hXS41 _ _ (hXS2 _ _ hl1A)).1 (fun cy => wAt_3 cy _ (hXS41 _ _ (hXS2 _ _ hl1A)).2) rfl 9 (by decide) (List.mem_of_getElem? (i := 12) rfl) rfl tyX3_ok nmX3 rfl (ty := .boolean) rfl rfl rfl (by show 9 < 17; decide) (fun cy b => by rw [eS45]; exact wSt_3_9 cy _ (hXS41 _ _ (hXS2 _ _ hl1A)).2 _ b) (by rw [eS45]) dX4_solve_199 ?_
            have hWS45 : wkWF S45 := by rw [eS45]; exact hWS41
            have hXS45 : wkExt S41 S45 := by rw [eS45]; exact wkExt.rf
            refine wk_aload_n C dX4_solve_202 rfl rfl ?_
            refine wk_aload_n C dX4_solve_203 rfl rfl ?_
            refine wk_get C (v := .int (gEntry_boundNow S45 l1A)) huX4_solve_3 (hXS45 _ _ (hXS41 _ _ (hXS2 _ _ hl1A))).1 (fun cy => wAt_3 cy _ (hXS45 _ _ (hXS41 _ _ (hXS2 _ _ hl1A))).2) rfl 8 (by decide) (List.mem_of_getElem? (i := 13) rfl) rfl rfl dX4_solve_204 ?_
            obtain ⟨S46, eS46, h⟩ := wkLt_some h
            refine wk_put C (S' := S46) huX4_solve_3 (hXS45 _ _ (hXS41 _ _ (hXS2 _ _ hl1A))).1 (fun cy => wAt_3 cy _ (hXS45 _ _ (hXS41 _ _ (hXS2 _ _ hl1A))).2) rfl 10 (by decide) (List.mem_of_getElem? (i := 14) rfl) rfl tyX3_ok nmX3 rfl (ty := .int) rfl rfl rfl (by show 10 < 17; decide) (fun cy b => by rw [eS46]; exact wSt_3_10 cy _ (hXS45 _ _ (hXS41 _ _ (hXS2 _ _ hl1A))).2 _ b) (by rw [eS46]) dX4_solve_207 ?_
            have hWS46 : wkWF S46 := by rw [eS46]; exact hWS45
            have hXS46 : wkExt S45 S46 := by rw [eS46]; exact wkExt.rf
            exact E _ _ _ _ _ hk43 hn44 dX4_solve_210 ⟨(), rfl, h, hWS46, (wkExt.tr (wkExt.tr (wkExt.tr (wkExt.tr hE hXS2) hXS41) hXS45) hXS46)⟩
          · rw [if_neg c39] at h
            by_cases c47 : (gEntry_kind S2 l1A) = 5
            · rw [if_pos c47] at h
              rw [c47]
              refine wk_tabIn C (tgt := 123) (off := 112) dX4_solve_11 (by decide) (by decide) (by decide) (by decide) ?_
              refine wk_aload_n C dX4_solve_123 rfl rfl ?_
              refine wk_get C huX4_solve_4 (hXS2 _ _ hl0A).1 (fun cy => wAt_4 cy _ (hXS2 _ _ hl0A).2) rfl 4 (by decide) (List.mem_of_getElem? (i := 33) rfl) rfl (congrArg some (congrArg va_rf (wf_House_numbers hWS2 (hXS2 _ _ hl0A)).1)) dX4_solve_124 ?_
              refine wk_aload_n C dX4_solve_127 rfl rfl ?_
              obtain ⟨k51, n52, hk51, hn52, h⟩ := h
              refine wk_callV C hR (As := [.ref l1A]) (cnt := 1) (tX8_solveEquations (l := l) hWS2 (wf_House_numbers hWS2 (hXS2 _ _ hl0A)).2 (hXS2 _ _ hl1A) h) rfl (wkGoodV (List.mem_of_getElem? (i := 34) rfl) (List.mem_of_getElem? (i := 35) rfl) (List.mem_of_getElem? (i := 36) rfl) (List.mem_of_getElem? (i := 37) rfl) hbX4_solve_X8_solveEquations gdX8_solveEquations) (Nat.le_trans (by decide : 5 + 1 ≤ 54) hd) (by decide) (wf_House_numbers hWS2 (hXS2 _ _ hl0A)).2.1 (fun cy => wAt_8 cy _ (wf_House_numbers hWS2 (hXS2 _ _ hl0A)).2.2) rfl ⟨by decide, by decide, by decide +kernel⟩ rfl rfl (Nat.le_of_ble_eq_true rfl) hk51 hn52 dX4_solve_128 (fun v' S49 hp => ?_)
              obtain ⟨v48, rfl, h, hWS49, hXS49⟩ := hp
              refine wk_goto C (tgt := 197) dX4_solve_131 (by decide) ?_
              refine wk_aload_n C dX4_solve_197 rfl rfl ?_
              refine wk_iconst C (v := 1) dX4_solve_198 (by decide) ?_
              obtain ⟨S53, eS53, h⟩ := wkLt_some h
              refine wk_put C (S' := S53) huX4_solve_3 (hXS49 _ _ (hXS2 _ _ hl1A)).1 (fun cy => wAt_3 cy _ (hXS49 _ _ (hXS2 _ _ hl1A)).2) rfl 9 (by decide) (List.mem_of_getElem? (i := 12) rfl) rfl tyX3_ok nmX3 rfl (ty := .boolean) rfl rfl rfl (by show 9 < 17; decide) (fun cy b => by rw [eS53]; exact wSt_3_9 cy _ (hXS49 _ _ (hXS2 _ _ hl1A)).2 _ b) (by rw [eS53]) dX4_solve_199 ?_
              have hWS53 : wkWF S53 := by rw [eS53]; exact hWS49
              have hXS53 : wkExt S49 S53 := by rw [eS53]; exact wkExt.rf
              refine wk_aload_n C dX4_solve_202 rfl rfl ?_
              refine wk_aload_n C dX4_solve_203 rfl rfl ?_
              refine wk_get C (v := .int (gEntry_boundNow S53 l1A)) huX4_solve_3 (hXS53 _ _ (hXS49 _ _ (hXS2 _ _ hl1A))).1 (fun cy => wAt_3 cy _ (hXS53 _ _ (hXS49 _ _ (hXS2 _ _ hl1A))).2) rfl 8 (by decide) (List.mem_of_getElem? (i := 13) rfl) rfl rfl dX4_solve_204 ?_
              obtain ⟨S54, eS54, h⟩ := wkLt_some h
              refine wk_put C (S' := S54) huX4_solve_3 (hXS53 _ _ (hXS49 _ _ (hXS2 _ _ hl1A))).1 (fun cy => wAt_3 cy _ (hXS53 _ _ (hXS49 _ _ (hXS2 _ _ hl1A))).2) rfl 10 (by decide) (List.mem_of_getElem? (i := 14) rfl) rfl tyX3_ok nmX3 rfl (ty := .int) rfl rfl rfl (by show 10 < 17; decide) (fun cy b => by rw [eS54]; exact wSt_3_10 cy _ (hXS53 _ _ (hXS49 _ _ (hXS2 _ _ hl1A))).2 _ b) (by rw [eS54]) dX4_solve_207 ?_
              have hWS54 : wkWF S54 := by rw [eS54]; exact hWS53
              have hXS54 : wkExt S53 S54 := by rw [eS54]; exact wkExt.rf
              exact E _ _ _ _ _ hk51 hn52 dX4_solve_210 ⟨(), rfl, h, hWS54, (wkExt.tr (wkExt.tr (wkExt.tr (wkExt.tr hE hXS2) hXS49) hXS53) hXS54)⟩
            · rw [if_neg c47] at h
              by_cases c55 : (gEntry_kind S2 l1A) = 6
              · rw [if_pos c55] at h
                rw [c55]
                refine wk_tabIn C (tgt := 134) (off := 123) dX4_solve_11 (by decide) (by decide) (by decide) (by decide) ?_
                refine wk_aload_n C dX4_solve_134 rfl rfl ?_
                refine wk_get C huX4_solve_4 (hXS2 _ _ hl0A).1 (fun cy => wAt_4 cy _ (hXS2 _ _ hl0A).2) rfl 4 (by decide) (List.mem_of_getElem? (i := 33) rfl) rfl (congrArg some (congrArg va_rf (wf_House_numbers hWS2 (hXS2 _ _ hl0A)).1)) dX4_solve_135 ?_
                refine wk_aload_n C dX4_solve_138 rfl rfl ?_
                obtain ⟨k59, n60, hk59, hn60, h⟩ := h
                refine wk_callV C hR (As := [.ref l1A]) (cnt := 1) (tX8_solvePrimes (l := l) hWS2 (wf_House_numbers hWS2 (hXS2 _ _ hl0A)).2 (hXS2 _ _ hl1A) h) rfl (wkGoodV (List.mem_of_getElem? (i := 38) rfl) (List.mem_of_getElem? (i := 39) rfl) (List.mem_of_getElem? (i := 40) rfl) (List.mem_of_getElem? (i := 37) rfl) hbX4_solve_X8_solvePrimes gdX8_solvePrimes) (Nat.le_trans (by decide : 52 + 1 ≤ 54) hd) (by decide) (wf_House_numbers hWS2 (hXS2 _ _ hl0A)).2.1 (fun cy => wAt_8 cy _ (wf_House_numbers hWS2 (hXS2 _ _ hl0A)).2.2) rfl ⟨by decide, by decide, by decide +kernel⟩ rfl rfl (Nat.le_of_ble_eq_true rfl) hk59 hn60 dX4_solve_139 (fun v' S57 hp => ?_)
                obtain ⟨v56, rfl, h, hWS57, hXS57⟩ := hp
                refine wk_goto C (tgt := 197) dX4_solve_142 (by decide) ?_
                refine wk_aload_n C dX4_solve_197 rfl rfl ?_
                refine wk_iconst C (v := 1) dX4_solve_198 (by decide) ?_
                obtain ⟨S61, eS61, h⟩ := wkLt_some h
                refine wk_put C (S' := S61) huX4_solve_3 (hXS57 _ _ (hXS2 _ _ hl1A)).1 (fun cy => wAt_3 cy _ (hXS57 _ _ (hXS2 _ _ hl1A)).2) rfl 9 (by decide) (List.mem_of_getElem? (i := 12) rfl) rfl tyX3_ok nmX3 rfl (ty := .boolean) rfl rfl rfl (by show 9 < 17; decide) (fun cy b => by rw [eS61]; exact wSt_3_9 cy _ (hXS57 _ _ (hXS2 _ _ hl1A)).2 _ b) (by rw [eS61]) dX4_solve_199 ?_
                have hWS61 : wkWF S61 := by rw [eS61]; exact hWS57
                have hXS61 : wkExt S57 S61 := by rw [eS61]; exact wkExt.rf
                refine wk_aload_n C dX4_solve_202 rfl rfl ?_
                refine wk_aload_n C dX4_solve_203 rfl rfl ?_
                refine wk_get C (v := .int (gEntry_boundNow S61 l1A)) huX4_solve_3 (hXS61 _ _ (hXS57 _ _ (hXS2 _ _ hl1A))).1 (fun cy => wAt_3 cy _ (hXS61 _ _ (hXS57 _ _ (hXS2 _ _ hl1A))).2) rfl 8 (by decide) (List.mem_of_getElem? (i := 13) rfl) rfl rfl dX4_solve_204 ?_
                obtain ⟨S62, eS62, h⟩ := wkLt_some h
                refine wk_put C (S' := S62) huX4_solve_3 (hXS61 _ _ (hXS57 _ _ (hXS2 _ _ hl1A))).1 (fun cy => wAt_3 cy _ (hXS61 _ _ (hXS57 _ _ (hXS2 _ _ hl1A))).2) rfl 10 (by decide) (List.mem_of_getElem? (i := 14) rfl) rfl tyX3_ok nmX3 rfl (ty := .int) rfl rfl rfl (by show 10 < 17; decide) (fun cy b => by rw [eS62]; exact wSt_3_10 cy _ (hXS61 _ _ (hXS57 _ _ (hXS2 _ _ hl1A))).2 _ b) (by rw [eS62]) dX4_solve_207 ?_
                have hWS62 : wkWF S62 := by rw [eS62]; exact hWS61
                have hXS62 : wkExt S61 S62 := by rw [eS62]; exact wkExt.rf
                exact E _ _ _ _ _ hk59 hn60 dX4_solve_210 ⟨(), rfl, h, hWS62, (wkExt.tr (wkExt.tr (wkExt.tr (wkExt.tr hE hXS2) hXS57) hXS61) hXS62)⟩
              · rw [if_neg c55] at h
                by_cases c63 : (gEntry_kind S2 l1A) = 7
                · rw [if_pos c63] at h
                  rw [c63]
                  refine wk_tabIn C (tgt := 145) (off := 134) dX4_solve_11 (by decide) (by decide) (by decide) (by decide) ?_
                  refine wk_aload_n C dX4_solve_145 rfl rfl ?_
                  refine wk_get C huX4_solve_4 (hXS2 _ _ hl0A).1 (fun cy => wAt_4 cy _ (hXS2 _ _ hl0A).2) rfl 4 (by decide) (List.mem_of_getElem? (i := 33) rfl) rfl (congrArg some (congrArg va_rf (wf_House_numbers hWS2 (hXS2 _ _ hl0A)).1)) dX4_solve_146 ?_
                  refine wk_aload_n C dX4_solve_149 rfl rfl ?_
                  obtain ⟨k67, n68, hk67, hn68, h⟩ := h
                  refine wk_callV C hR (As := [.ref l1A]) (cnt := 1) (tX8_solveRoots (l := l) hWS2 (wf_House_numbers hWS2 (hXS2 _ _ hl0A)).2 (hXS2 _ _ hl1A) h) rfl (wkGoodV (List.mem_of_getElem? (i := 41) rfl) (List.mem_of_getElem? (i := 42) rfl) (List.mem_of_getElem? (i := 43) rfl) (List.mem_of_getElem? (i := 37) rfl) hbX4_solve_X8_solveRoots gdX8_solveRoots) (Nat.le_trans (by decide : 52 + 1 ≤ 54) hd) (by decide) (wf_House_numbers hWS2 (hXS2 _ _ hl0A)).2.1 (fun cy => wAt_8 cy _ (wf_House_numbers hWS2 (hXS2 _ _ hl0A)).2.2) rfl ⟨by decide, by decide, by decide +kernel⟩ rfl rfl (Nat.le_of_ble_eq_true rfl) hk67 hn68 dX4_solve_150 (fun v' S65 hp => ?_)
                  obtain ⟨v64, rfl, h, hWS65, hXS65⟩ := hp
                  refine wk_goto C (tgt := 197) dX4_solve_153 (by decide) ?_
                  refine wk_aload_n C dX4_solve_197 rfl rfl ?_
                  refine wk_iconst C (v := 1) dX4_solve_198 (by decide) ?_
                  obtain ⟨S69, eS69, h⟩ := wkLt_some h
                  refine wk_put C (S' := S69) huX4_solve_3 (hXS65 _ _ (hXS2 _ _ hl1A)).1 (fun cy => wAt_3 cy _ (hXS65 _ _ (hXS2 _ _ hl1A)).2) rfl 9 (by decide) (List.mem_of_getElem? (i := 12) rfl) rfl tyX3_ok nmX3 rfl (ty := .boolean) rfl rfl rfl (by show 9 < 17; decide) (fun cy b => by rw [eS69]; exact wSt_3_9 cy _ (hXS65 _ _ (hXS2 _ _ hl1A)).2 _ b) (by rw [eS69]) dX4_solve_199 ?_
                  have hWS69 : wkWF S69 := by rw [eS69]; exact hWS65
                  have hXS69 : wkExt S65 S69 := by rw [eS69]; exact wkExt.rf
                  refine wk_aload_n C dX4_solve_202 rfl rfl ?_
                  refine wk_aload_n C dX4_solve_203 rfl rfl ?_
                  refine wk_get C (v := .int (gEntry_boundNow S69 l1A)) huX4_solve_3 (hXS69 _ _ (hXS65 _ _ (hXS2 _ _ hl1A))).1 (fun cy => wAt_3 cy _ (hXS69 _ _ (hXS65 _ _ (hXS2 _ _ hl1A))).2) rfl 8 (by decide) (List.mem_of_getElem? (i := 13) rfl) rfl rfl dX4_solve_204 ?_
                  obtain ⟨S70, eS70, h⟩ := wkLt_some h
                  refine wk_put C (S' := S70) huX4_solve_3 (hXS69 _ _ (hXS65 _ _ (hXS2 _ _ hl1A))).1 (fun cy => wAt_3 cy _ (hXS69 _ _ (hXS65 _ _ (hXS2 _ _ hl1A))).2) rfl 10 (by decide) (List.mem_of_getElem? (i := 14) rfl) rfl tyX3_ok nmX3 rfl (ty := .int) rfl rfl rfl (by show 10 < 17; decide) (fun cy b => by rw [eS70]; exact wSt_3_10 cy _ (hXS69 _ _ (hXS65 _ _ (hXS2 _ _ hl1A))).2 _ b) (by rw [eS70]) dX4_solve_207 ?_
                  have hWS70 : wkWF S70 := by rw [eS70]; exact hWS69
                  have hXS70 : wkExt S69 S70 := by rw [eS70]; exact wkExt.rf
                  exact E _ _ _ _ _ hk67 hn68 dX4_solve_210 ⟨(), rfl, h, hWS70, (wkExt.tr (wkExt.tr (wkExt.tr (wkExt.tr hE hXS2) hXS65) hXS69) hXS70)⟩
                · rw [if_neg c63] at h
                  by_cases c71 : (gEntry_kind S2 l1A) = 8
                  · rw [if_pos c71] at h
                    rw [c71]
                    refine wk_tabIn C (tgt := 156) (off := 145) dX4_solve_11 (by decide) (by decide) (by decide) (by decide) ?_
                    refine wk_aload_n C dX4_solve_156 rfl rfl ?_
                    refine wk_get C huX4_solve_4 (hXS2 _ _ hl0A).1 (fun cy => wAt_4 cy _ (hXS2 _ _ hl0A).2) rfl 5 (by decide) (List.mem_of_getElem? (i := 44) rfl) rfl (congrArg some (congrArg va_rf (wf_House_words hWS2 (hXS2 _ _ hl0A)).1)) dX4_solve_157 ?_
                    refine wk_aload_n C dX4_solve_160 rfl rfl ?_
                    obtain ⟨k75, n76, hk75, hn76, h⟩ := h
                    refine wk_callV C hR (As := [.ref l1A]) (cnt := 1) (tX10_solvePermutations (l := l) hWS2 (wf_House_words hWS2 (hXS2 _ _ hl0A)).2 (hXS2 _ _ hl1A) h) rfl (wkGoodV (List.mem_of_getElem? (i := 45) rfl) (List.mem_of_getElem? (i := 46) rfl) (List.mem_of_getElem? (i := 47) rfl) (List.mem_of_getElem? (i := 48) rfl) hbX4_solve_X10_solvePermutations gdX10_solvePermutations) (Nat.le_trans (by decide : 4 + 1 ≤ 54) hd) (by decide) (wf_House_words hWS2 (hXS2 _ _ hl0A)).2.1 (fun cy => wAt_10 cy _ (wf_House_words hWS2 (hXS2 _ _ hl0A)).2.2) rfl ⟨by decide, by decide, by decide +kernel⟩ rfl rfl (Nat.le_of_ble_eq_true rfl) hk75 hn76 dX4_solve_161 (fun v' S73 hp => ?_)
                    obtain ⟨v72, rfl, h, hWS73, hXS73⟩ := hp
                    refine wk_goto C (tgt := 197) dX4_solve_164 (by decide) ?_
                    refine wk_aload_n C dX4_solve_197 rfl rfl ?_
                    refine wk_iconst C (v := 1) dX4_solve_198 (by decide) ?_
                    obtain ⟨S77, eS77, h⟩ := wkLt_some h
                    refine wk_put C (S' := S77) huX4_solve_3 (hXS73 _ _ (hXS2 _ _ hl1A)).1 (fun cy => wAt_3 cy _ (hXS73 _ _ (hXS2 _ _ hl1A)).2) rfl 9 (by decide) (List.mem_of_getElem? (i := 12) rfl) rfl tyX3_ok nmX3 rfl (ty := .boolean) rfl rfl rfl (by show 9 < 17; decide) (fun cy b => by rw [eS77]; exact wSt_3_9 cy _ (hXS73 _ _ (hXS2 _ _ hl1A)).2 _ b) (by rw [eS77]) dX4_solve_199 ?_
                    have hWS77 : wkWF S77 := by rw [eS77]; exact hWS73
                    have hXS77 : wkExt S73 S77 := by rw [eS77]; exact wkExt.rf
                    refine wk_aload_n C dX4_solve_202 rfl rfl ?_
                    refine wk_aload_n C dX4_solve_203 rfl rfl ?_
                    refine wk_get C (v := .int (gEntry_boundNow S77 l1A)) huX4_solve_3 (hXS77 _ _ (hXS73 _ _ (hXS2 _ _ hl1A))).1 (fun cy => wAt_3 cy _ (hXS77 _ _ (hXS73 _ _ (hXS2 _ _ hl1A))).2) rfl 8 (by decide) (List.mem_of_getElem? (i := 13) rfl) rfl rfl dX4_solve_204 ?_
                    obtain ⟨S78, eS78, h⟩ := wkLt_some h
                    refine wk_put C (S' := S78) huX4_solve_3 (hXS77 _ _ (hXS73 _ _ (hXS2 _ _ hl1A))).1 (fun cy => wAt_3 cy _ (hXS77 _ _ (hXS73 _ _ (hXS2 _ _ hl1A))).2) rfl 10 (by decide) (List.mem_of_getElem? (i := 14) rfl) rfl tyX3_ok nmX3 rfl (ty := .int) rfl rfl rfl (by show 10 < 17; decide) (fun cy b => by rw [eS78]; exact wSt_3_10 cy _ (hXS77 _ _ (hXS73 _ _ (hXS2 _ _ hl1A))).2 _ b) (by rw [eS78]) dX4_solve_207 ?_
                    have hWS78 : wkWF S78 := by rw [eS78]; exact hWS77
                    have hXS78 : wkExt S77 S78 := by rw [eS78]; exact wkExt.rf
                    exact E _ _ _ _ _ hk75 hn76 dX4_solve_210 ⟨(), rfl, h, hWS78, (wkExt.tr (wkExt.tr (wkExt.tr (wkExt.tr hE hXS2) hXS73) hXS77) hXS78)⟩
                  · rw [if_neg c71] at h
                    by_cases c79 : (gEntry_kind S2 l1A) = 9
                    · rw [if_pos c79] at h
                      rw [c79]
                      refine wk_tabIn C (tgt := 167) (off := 156) dX4_solve_11 (by decide) (by decide) (by decide) (by decide) ?_
                      refine wk_aload_n C dX4_solve_167 rfl rfl ?_
                      refine wk_get C huX4_solve_4 (hXS2 _ _ hl0A).1 (fun cy => wAt_4 cy _ (hXS2 _ _ hl0A).2) rfl 5 (by decide) (List.mem_of_getElem? (i := 44) rfl) rfl (congrArg some (congrArg va_rf (wf_House_words hWS2 (hXS2 _ _ hl0A)).1)) dX4_solve_168 ?_
                      refine wk_aload_n C dX4_solve_171 rfl rfl ?_
                      obtain ⟨k83, n84, hk83, hn84, h⟩ := h
                      refine wk_callV C hR (As := [.ref l1A]) (cnt := 1) (tX10_solveWords (l := l) hWS2 (wf_House_words hWS2 (hXS2 _ _ hl0A)).2 (hXS2 _ _ hl1A) h) rfl (wkGoodV (List.mem_of_getElem? (i := 49) rfl) (List.mem_of_getElem? (i := 50) rfl) (List.mem_of_getElem? (i := 51) rfl) (List.mem_of_getElem? (i := 48) rfl) hbX4_solve_X10_solveWords gdX10_solveWords) (Nat.le_trans (by decide : 4 + 1 ≤ 54) hd) (by decide) (wf_House_words hWS2 (hXS2 _ _ hl0A)).2.1 (fun cy => wAt_10 cy _ (wf_House_words hWS2 (hXS2 _ _ hl0A)).2.2) rfl ⟨by decide, by decide, by decide +kernel⟩ rfl rfl (Nat.le_of_ble_eq_true rfl) hk83 hn84 dX4_solve_172 (fun v' S81 hp => ?_)
                      obtain ⟨v80, rfl, h, hWS81, hXS81⟩ := hp
                      refine wk_goto C (tgt := 197) dX4_solve_175 (by decide) ?_
                      refine wk_aload_n C dX4_solve_197 rfl rfl ?_
                      refine wk_iconst C (v := 1) dX4_solve_198 (by decide) ?_
                      obtain ⟨S85, eS85, h⟩ := wkLt_some h
                      refine wk_put C (S' := S85) huX4_solve_3 (hXS81 _ _ (hXS2 _ _ hl1A)).1 (fun cy => wAt_3 cy _ (hXS81 _ _ (hXS2 _ _ hl1A)).2) rfl 9 (by decide) (List.mem_of_getElem? (i := 12) rfl) rfl tyX3_ok nmX3 rfl (ty := .boolean) rfl rfl rfl (by show 9 < 17; decide) (fun cy b => by rw [eS85]; exact wSt_3_9 cy _ (hXS81 _ _ (hXS2 _ _ hl1A)).2 _ b) (by rw [eS85]) dX4_solve_199 ?_
                      have hWS85 : wkWF S85 := by rw [eS85]; exact hWS81
                      have hXS85 : wkExt S81 S85 := by rw [eS85]; exact wkExt.rf
                      refine wk_aload_n C dX4_solve_202 rfl rfl ?_
                      refine wk_aload_n C dX4_solve_203 rfl rfl ?_
                      refine wk_get C (v := .int (gEntry_boundNow S85 l1A)) huX4_solve_3 (hXS85 _ _ (hXS81 _ _ (hXS2 _ _ hl1A))).1 (fun cy => wAt_3 cy _ (hXS85 _ _ (hXS81 _ _ (hXS2 _ _ hl1A))).2) rfl 8 (by decide) (List.mem_of_getElem? (i := 13) rfl) rfl rfl dX4_solve_204 ?_
                      obtain ⟨S86, eS86, h⟩ := wkLt_some h
                      refine wk_put C (S' := S86) huX4_solve_3 (hXS85 _ _ (hXS81 _ _ (hXS2 _ _ hl1A))).1 (fun cy => wAt_3 cy _ (hXS85 _ _ (hXS81 _ _ (hXS2 _ _ hl1A))).2) rfl 10 (by decide) (List.mem_of_getElem? (i := 14) rfl) rfl tyX3_ok nmX3 rfl (ty := .int) rfl rfl rfl (by show 10 < 17; decide) (fun cy b => by rw [eS86]; exact wSt_3_10 cy _ (hXS85 _ _ (hXS81 _ _ (hXS2 _ _ hl1A))).2 _ b) (by rw [eS86]) dX4_solve_207 ?_
                      have hWS86 : wkWF S86 := by rw [eS86]; exact hWS85
                      have hXS86 : wkExt S85 S86 := by rw [eS86]; exact wkExt.rf
                      exact E _ _ _ _ _ hk83 hn84 dX4_solve_210 ⟨(), rfl, h, hWS86, (wkExt.tr (wkExt.tr (wkExt.tr (wkExt.tr hE hXS2) hXS81) hXS85) hXS86)⟩
                    · rw [if_neg c79] at h
                      by_cases c87 : (gEntry_kind S2 l1A) = 10
                      · rw [if_pos c87] at h
                        rw [c87]
                        refine wk_tabIn C (tgt := 178) (off := 167) dX4_solve_11 (by decide) (by decide) (by decide) (by decide) ?_
                        refine wk_aload_n C dX4_solve_178 rfl rfl ?_
                        refine wk_get C huX4_solve_4 (hXS2 _ _ hl0A).1 (fun cy => wAt_4 cy _ (hXS2 _ _ hl0A).2) rfl 6 (by decide) (List.mem_of_getElem? (i := 52) rfl) rfl (congrArg some (congrArg va_rf (wf_House_machines hWS2 (hXS2 _ _ hl0A)).1)) dX4_solve_179 ?_
                        refine wk_aload_n C dX4_solve_182 rfl rfl ?_
                        obtain ⟨k91, n92, hk91, hn92, h⟩ := h
                        refine wk_callV C hR (As := [.ref l1A]) (cnt := 1) (tX6_solveMachines (l := l) hWS2 (wf_House_machines hWS2 (hXS2 _ _ hl0A)).2 (hXS2 _ _ hl1A) h) rfl (wkGoodV (List.mem_of_getElem? (i := 53) rfl) (List.mem_of_getElem? (i := 54) rfl) (List.mem_of_getElem? (i := 55) rfl) (List.mem_of_getElem? (i := 56) rfl) hbX4_solve_X6_solveMachines gdX6_solveMachines) (Nat.le_trans (by decide : 4 + 1 ≤ 54) hd) (by decide) (wf_House_machines hWS2 (hXS2 _ _ hl0A)).2.1 (fun cy => wAt_6 cy _ (wf_House_machines hWS2 (hXS2 _ _ hl0A)).2.2) rfl ⟨by decide, by decide, by decide +kernel⟩ rfl rfl (Nat.le_of_ble_eq_true rfl) hk91 hn92 dX4_solve_183 (fun v' S89 hp => ?_)
                        obtain ⟨v88, rfl, h, hWS89, hXS89⟩ := hp
                        refine wk_goto C (tgt := 197) dX4_solve_186 (by decide) ?_
                        refine wk_aload_n C dX4_solve_197 rfl rfl ?_
                        refine wk_iconst C (v := 1) dX4_solve_198 (by decide) ?_
                        obtain ⟨S93, eS93, h⟩ := wkLt_some h
                        refine wk_put C (S' := S93) huX4_solve_3 (hXS89 _ _ (hXS2 _ _ hl1A)).1 (fun cy => wAt_3 cy _ (hXS89 _ _ (hXS2 _ _ hl1A)).2) rfl 9 (by decide) (List.mem_of_getElem? (i := 12) rfl) rfl tyX3_ok nmX3 rfl (ty := .boolean) rfl rfl rfl (by show 9 < 17; decide) (fun cy b => by rw [eS93]; exact wSt_3_9 cy _ (hXS89 _ _ (hXS2 _ _ hl1A)).2 _ b) (by rw [eS93]) dX4_solve_199 ?_
                        have hWS93 : wkWF S93 := by rw [eS93]; exact hWS89
                        have hXS93 : wkExt S89 S93 := by rw [eS93]; exact wkExt.rf
                        refine wk_aload_n C dX4_solve_202 rfl rfl ?_
                        refine wk_aload_n C dX4_solve_203 rfl rfl ?_
                        refine wk_get C (v := .int (gEntry_boundNow S93 l1A)) huX4_solve_3 (hXS93 _ _ (hXS89 _ _ (hXS2 _ _ hl1A))).1 (fun cy => wAt_3 cy _ (hXS93 _ _ (hXS89 _ _ (hXS2 _ _ hl1A))).2) rfl 8 (by decide) (List.mem_of_getElem? (i := 13) rfl) rfl rfl dX4_solve_204 ?_
                        obtain ⟨S94, eS94, h⟩ := wkLt_some h
                        refine wk_put C (S' := S94) huX4_solve_3 (hXS93 _ _ (hXS89 _ _ (hXS2 _ _ hl1A))).1 (fun cy => wAt_3 cy _ (hXS93 _ _ (hXS89 _ _ (hXS2 _ _ hl1A))).2) rfl 10 (by decide) (List.mem_of_getElem? (i := 14) rfl) rfl tyX3_ok nmX3 rfl (ty := .int) rfl rfl rfl (by show 10 < 17; decide) (fun cy b => by rw [eS94]; exact wSt_3_10 cy _ (hXS93 _ _ (hXS89 _ _ (hXS2 _ _ hl1A))).2 _ b) (by rw [eS94]) dX4_solve_207 ?_
                        have hWS94 : wkWF S94 := by rw [eS94]; exact hWS93
                        have hXS94 : wkExt S93 S94 := by rw [eS94]; exact wkExt.rf
                        exact E _ _ _ _ _ hk91 hn92 dX4_solve_210 ⟨(), rfl, h, hWS94, (wkExt.tr (wkExt.tr (wkExt.tr (wkExt.tr hE hXS2) hXS89) hXS93) hXS94)⟩
                      · rw [if_neg c87] at h
                        refine wk_tabOut C (tgt := 189) dX4_solve_11 (wkOut (fun z h1 h2 e => by
                            have hz : z = 0 ∨ z = 1 ∨ z = 2 ∨ z = 3 ∨ z = 4 ∨ z = 5 ∨ z = 6 ∨ z = 7 ∨ z = 8 ∨ z = 9 ∨ z = 10 := by omega
                            rcases hz with rfl | rfl | rfl | rfl | rfl | rfl | rfl | rfl | rfl | rfl | rfl
                            · exact c7 e
                            · exact c15 e
                            · exact c23 e
                            · exact c31 e
                            · exact c39 e
                            · exact c47 e
                            · exact c55 e
                            · exact c63 e
                            · exact c71 e
                            · exact c79 e
                            · exact c87 e)) (by decide) ?_
                        refine wk_aload_n C dX4_solve_189 rfl rfl ?_
                        refine wk_get C huX4_solve_4 (hXS2 _ _ hl0A).1 (fun cy => wAt_4 cy _ (hXS2 _ _ hl0A).2) rfl 6 (by decide) (List.mem_of_getElem? (i := 52) rfl) rfl (congrArg some (congrArg va_rf (wf_House_machines hWS2 (hXS2 _ _ hl0A)).1)) dX4_solve_190 ?_
                        refine wk_aload_n C dX4_solve_193 rfl rfl ?_
                        obtain ⟨k98, n99, hk98, hn99, h⟩ := h
                        refine wk_callV C hR (As := [.ref l1A]) (cnt := 1) (tX6_solveGames (l := l) hWS2 (wf_House_machines hWS2 (hXS2 _ _ hl0A)).2 (hXS2 _ _ hl1A) h) rfl (wkGoodV (List.mem_of_getElem? (i := 57) rfl) (List.mem_of_getElem? (i := 58) rfl) (List.mem_of_getElem? (i := 59) rfl) (List.mem_of_getElem? (i := 56) rfl) hbX4_solve_X6_solveGames gdX6_solveGames) (Nat.le_trans (by decide : 52 + 1 ≤ 54) hd) (by decide) (wf_House_machines hWS2 (hXS2 _ _ hl0A)).2.1 (fun cy => wAt_6 cy _ (wf_House_machines hWS2 (hXS2 _ _ hl0A)).2.2) rfl ⟨by decide, by decide, by decide +kernel⟩ rfl rfl (Nat.le_of_ble_eq_true rfl) hk98 hn99 dX4_solve_194 (fun v' S96 hp => ?_)
                        obtain ⟨v95, rfl, h, hWS96, hXS96⟩ := hp
                        refine wk_aload_n C dX4_solve_197 rfl rfl ?_
                        refine wk_iconst C (v := 1) dX4_solve_198 (by decide) ?_
                        obtain ⟨S100, eS100, h⟩ := wkLt_some h
                        refine wk_put C (S' := S100) huX4_solve_3 (hXS96 _ _ (hXS2 _ _ hl1A)).1 (fun cy => wAt_3 cy _ (hXS96 _ _ (hXS2 _ _ hl1A)).2) rfl 9 (by decide) (List.mem_of_getElem? (i := 12) rfl) rfl tyX3_ok nmX3 rfl (ty := .boolean) rfl rfl rfl (by show 9 < 17; decide) (fun cy b => by rw [eS100]; exact wSt_3_9 cy _ (hXS96 _ _ (hXS2 _ _ hl1A)).2 _ b) (by rw [eS100]) dX4_solve_199 ?_
                        have hWS100 : wkWF S100 := by rw [eS100]; exact hWS96
                        have hXS100 : wkExt S96 S100 := by rw [eS100]; exact wkExt.rf
                        refine wk_aload_n C dX4_solve_202 rfl rfl ?_
                        refine wk_aload_n C dX4_solve_203 rfl rfl ?_
                        refine wk_get C (v := .int (gEntry_boundNow S100 l1A)) huX4_solve_3 (hXS100 _ _ (hXS96 _ _ (hXS2 _ _ hl1A))).1 (fun cy => wAt_3 cy _ (hXS100 _ _ (hXS96 _ _ (hXS2 _ _ hl1A))).2) rfl 8 (by decide) (List.mem_of_getElem? (i := 13) rfl) rfl rfl dX4_solve_204 ?_
                        obtain ⟨S101, eS101, h⟩ := wkLt_some h
                        refine wk_put C (S' := S101) huX4_solve_3 (hXS100 _ _ (hXS96 _ _ (hXS2 _ _ hl1A))).1 (fun cy => wAt_3 cy _ (hXS100 _ _ (hXS96 _ _ (hXS2 _ _ hl1A))).2) rfl 10 (by decide) (List.mem_of_getElem? (i := 14) rfl) rfl tyX3_ok nmX3 rfl (ty := .int) rfl rfl rfl (by show 10 < 17; decide) (fun cy b => by rw [eS101]; exact wSt_3_10 cy _ (hXS100 _ _ (hXS96 _ _ (hXS2 _ _ hl1A))).2 _ b) (by rw [eS101]) dX4_solve_207 ?_
                        have hWS101 : wkWF S101 := by rw [eS101]; exact hWS100
                        have hXS101 : wkExt S100 S101 := by rw [eS101]; exact wkExt.rf
                        exact E _ _ _ _ _ hk98 hn99 dX4_solve_210 ⟨(), rfl, h, hWS101, (wkExt.tr (wkExt.tr (wkExt.tr (wkExt.tr hE hXS2) hXS96) hXS100) hXS101)⟩
