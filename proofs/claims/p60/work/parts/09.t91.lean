def wvX11_check : List Cond := .code yX11_check cX11_check 3 (some .int) :: (([.fieldLink RX11 10 "Witnessworks" "house" "LWitnessworks$House;", .methodLink RX11 144 yX11_refreshed, .instanceMethod yX11_refreshed, .selects RX11 yX11_refreshed yX11_refreshed, .initialized RX11, .fieldLink RX11 47 "Witnessworks" "typed" "LWitnessworks$Row;", .methodLink RX11 382 yX4_judge, .instanceMethod yX4_judge, .selects RX4 yX4_judge yX4_judge, .initialized RX4] : List Cond) ++ ((wsX110) ++ (wvX11_refreshed ++ (wvX4_judge))))
theorem huX11_check_11 : ∀ w ∈ u_ws RX11 TX11 19, w ∈ wvX11_check := fun w h => List.mem_cons_of_mem _ (List.mem_append_right _ (List.mem_append_left _ h))
theorem hbX11_check_X11_refreshed : ∀ w ∈ wvX11_refreshed, w ∈ wvX11_check := fun w h => List.mem_cons_of_mem _ (List.mem_append_right _ (List.mem_append_right _ (List.mem_append_left _ h)))
theorem hbX11_check_X4_judge : ∀ w ∈ wvX4_judge, w ∈ wvX11_check := fun w h => List.mem_cons_of_mem _ (List.mem_append_right _ (List.mem_append_right _ (List.mem_append_right _ h)))
theorem gdX11_check : ∀ w ∈ wvX11_check, wkGd w := wkGdC rfl (wkGdA (wkGdL (by decide +kernel)) (wkGdA gdX11 (wkGdA gdX11_refreshed gdX4_judge)))
def rX11_check (F : Nat) (k n : Nat) (l0A : Nat) (l1I : Int32) (l2I : Int32) (S : wPS) (Φ : (Int32 → wPS → Prop)) (Ψ : String → wPS → Prop) : Prop :=
  ∃ k4 n5 : Nat, 0 + k4 ≤ k ∧ 0 + n5 ≤ n ∧ rX11_refreshed F k4 n5 l0A l1I S (fun v1 S2 => rX4_judge F (wkAd (gWitnessworks_house S l0A)) v1 (wkAd (gWitnessworks_typed S2 l0A)) l2I S2 fun v6 S7 => Φ v6 S7) Ψ
set_option maxHeartbeats 4000000 in
set_option maxRecDepth 100000 in
theorem tX11_check {l : Launch} {g : wkG} {F : Nat} {k n : Nat}  {S : wPS} {l0A : Nat} {l1I : Int32} {l2I : Int32} {Φ : (Int32 → wPS → Prop)} {Ψ : String → wPS → Prop} (hst : wkSta g) (hex : wkExA g) (hlt : l.stackTraces = false) (hW : wkWF S) (hl0A : wkIs S l0A 11) (h : rX11_check F k n l0A l1I l2I S Φ Ψ) : wkMetX l g yX11_check wvX11_check 56 k n [.ref l0A, .int l1I, .int l2I] S (fun v' S'' => ∃ v : Int32, v' = some (.int v) ∧ Φ v S'' ∧ wkWF S'' ∧ wkExt S S'') (fun E S'' => Ψ E S'' ∧ wkWF S'' ∧ wkExt S S'') := by
  refine wkMetX_of (ret := (some .int)) (by decide) rfl (Nat.le_of_ble_eq_true rfl) rfl hex hlt (by decide) (fun X hg C hR E EX ET => ?_)
  subst hg
  have hE : wkExt S S := wkExt.rf
  have hd : 56 ≤ 56 := Nat.le_refl _
  show wkGo l X 3 0 0 0 S [some (.ref l0A), some (.int l1I), some (.int l2I)] []
  unfold rX11_check at h
  refine wk_aload_n C dX11_check_0 rfl rfl ?_
  refine wk_get C huX11_check_11 hl0A.1 (fun cy => wAt_11 cy _ hl0A.2) rfl 0 (by decide) (List.mem_of_getElem? (i := 1) rfl) rfl (congrArg some (congrArg va_rf (wf_Witnessworks_house hW hl0A).1)) dX11_check_1 ?_
  refine wk_aload_n C dX11_check_4 rfl rfl ?_
  refine wk_iload_n C dX11_check_5 rfl rfl ?_
  obtain ⟨k4, n5, hk4, hn5, h⟩ := h
  refine wk_callVX C hR EX (As := [.int l1I]) (cnt := 1) (tX11_refreshed (l := l) hst hex hlt hW hl0A h) rfl (wkGoodV (List.mem_of_getElem? (i := 2) rfl) (List.mem_of_getElem? (i := 3) rfl) (List.mem_of_getElem? (i := 4) rfl) (List.mem_of_getElem? (i := 5) rfl) hbX11_check_X11_refreshed gdX11_refreshed) (Nat.le_trans (by decide : 55 + 1 ≤ 56) hd) (by decide) hl0A.1 (fun cy => wAt_11 cy _ hl0A.2) rfl ⟨by decide, by decide, by decide +kernel⟩ rfl rfl (Nat.le_of_ble_eq_true rfl) hk4 hn5 dX11_check_6 (fun E S' q => ⟨q.1, q.2.1, wkExt.tr hE q.2.2⟩) (fun v' S2 hp => ?_)
  obtain ⟨v1, rfl, h, hWS2, hXS2, hIS2⟩ := hp
  refine wk_aload_n C dX11_check_9 rfl rfl ?_
  refine wk_get C huX11_check_11 (hXS2 _ _ hl0A).1 (fun cy => wAt_11 cy _ (hXS2 _ _ hl0A).2) rfl 11 (by decide) (List.mem_of_getElem? (i := 6) rfl) rfl (congrArg some (congrArg va_rf (wf_Witnessworks_typed hWS2 (hXS2 _ _ hl0A)).1)) dX11_check_10 ?_
  refine wk_iload_n C dX11_check_13 rfl rfl ?_
  refine wk_callV C hR (As := [.ref v1, .ref (wkAd (gWitnessworks_typed S2 l0A)), .int l2I]) (cnt := 3) (tX4_judge (l := l) hWS2 (hXS2 _ _ (wf_Witnessworks_house hW hl0A).2) hIS2 (wf_Witnessworks_typed hWS2 (hXS2 _ _ hl0A)).2 h) rfl (wkGoodV (List.mem_of_getElem? (i := 7) rfl) (List.mem_of_getElem? (i := 8) rfl) (List.mem_of_getElem? (i := 9) rfl) (List.mem_of_getElem? (i := 10) rfl) hbX11_check_X4_judge gdX4_judge) (Nat.le_trans (by decide : 53 + 1 ≤ 56) hd) (by decide) (hXS2 _ _ (wf_Witnessworks_house hW hl0A).2).1 (fun cy => wAt_4 cy _ (hXS2 _ _ (wf_Witnessworks_house hW hl0A).2).2) rfl ⟨by decide, by decide, by decide +kernel⟩ rfl rfl (Nat.le_of_ble_eq_true rfl) hk4 hn5 dX11_check_14 (fun v' S7 hp => ?_)
  obtain ⟨v6, rfl, h, hWS7, hXS7⟩ := hp
  exact E _ _ _ _ _ _ hk4 hn5 dX11_check_17 ⟨v6, rfl, h, hWS7, (wkExt.tr (wkExt.tr hE hXS2) hXS7)⟩
def wvX11_claim : List Cond := .code yX11_claim cX11_claim 6 (some .int) :: (([.fieldLink RX11 339 "Witnessworks" "personCount" "I", .methodLink RX11 144 yX11_refreshed, .instanceMethod yX11_refreshed, .selects RX11 yX11_refreshed yX11_refreshed, .initialized RX11, .fieldLink RX11 10 "Witnessworks" "house" "LWitnessworks$House;", .fieldLink RX11 47 "Witnessworks" "typed" "LWitnessworks$Row;", .methodLink RX11 382 yX4_judge, .instanceMethod yX4_judge, .selects RX4 yX4_judge yX4_judge, .initialized RX4, .methodLink RX11 391 yX11_standsAlready, .instanceMethod yX11_standsAlready, .selects RX11 yX11_standsAlready yX11_standsAlready, .fieldLink RX11 395 "Witnessworks" "claimCount" "I", .fieldLink RX11 56 "Witnessworks" "claims" "[LWitnessworks$Claim;", .methodLink RX11 400 yX0_begin, .instanceMethod yX0_begin, .selects RX0 yX0_begin yX0_begin, .initialized RX0, .fieldLink RX11 51 "Witnessworks" "earned" "[I", .fieldLink RX11 230 "Witnessworks$Row" "count" "I", .fieldLink RX11 227 "Witnessworks$Entry" "row" "LWitnessworks$Row;"] : List Cond) ++ ((wsX110 ++ (wsX90 ++ (wsX30))) ++ (wvX11_refreshed ++ (wvX4_judge ++ (wvX11_standsAlready ++ (wvX0_begin))))))
theorem huX11_claim_11 : ∀ w ∈ u_ws RX11 TX11 19, w ∈ wvX11_claim := fun w h => List.mem_cons_of_mem _ (List.mem_append_right _ (List.mem_append_left _ (List.mem_append_left _ h)))
theorem huX11_claim_9 : ∀ w ∈ u_ws RX9 TX9 2, w ∈ wvX11_claim := fun w h => List.mem_cons_of_mem _ (List.mem_append_right _ (List.mem_append_left _ (List.mem_append_right _ (List.mem_append_left _ h))))
theorem huX11_claim_3 : ∀ w ∈ u_ws RX3 TX3 17, w ∈ wvX11_claim := fun w h => List.mem_cons_of_mem _ (List.mem_append_right _ (List.mem_append_left _ (List.mem_append_right _ (List.mem_append_right _ h))))
theorem hbX11_claim_X11_refreshed : ∀ w ∈ wvX11_refreshed, w ∈ wvX11_claim := fun w h => List.mem_cons_of_mem _ (List.mem_append_right _ (List.mem_append_right _ (List.mem_append_left _ h)))
theorem hbX11_claim_X4_judge : ∀ w ∈ wvX4_judge, w ∈ wvX11_claim := fun w h => List.mem_cons_of_mem _ (List.mem_append_right _ (List.mem_append_right _ (List.mem_append_right _ (List.mem_append_left _ h))))
theorem hbX11_claim_X11_standsAlready : ∀ w ∈ wvX11_standsAlready, w ∈ wvX11_claim := fun w h => List.mem_cons_of_mem _ (List.mem_append_right _ (List.mem_append_right _ (List.mem_append_right _ (List.mem_append_right _ (List.mem_append_left _ h)))))
theorem hbX11_claim_X0_begin : ∀ w ∈ wvX0_begin, w ∈ wvX11_claim := fun w h => List.mem_cons_of_mem _ (List.mem_append_right _ (List.mem_append_right _ (List.mem_append_right _ (List.mem_append_right _ (List.mem_append_right _ h)))))
theorem gdX11_claim : ∀ w ∈ wvX11_claim, wkGd w := wkGdC rfl (wkGdA (wkGdL (by decide +kernel)) (wkGdA (wkGdA gdX11 (wkGdA gdX9 gdX3)) (wkGdA gdX11_refreshed (wkGdA gdX4_judge (wkGdA gdX11_standsAlready gdX0_begin)))))
def rX11_claim (F : Nat) (k n : Nat) (l0A : Nat) (l1I : Int32) (l2I : Int32) (l3I : Int32) (S : wPS) (Φ : (Int32 → wPS → Prop)) (Ψ : String → wPS → Prop) : Prop :=
  if l1I < 0 then (0 + 1 ≤ k ∧ 0 + 6 ≤ n ∧ Ψ "java/lang/IndexOutOfBoundsException" S) else (if l1I < (gWitnessworks_personCount S l0A) then (∃ k7 n8 : Nat, 0 + k7 ≤ k ∧ 0 + n8 ≤ n ∧ rX11_refreshed F k7 n8 l0A l2I S (fun v4 S5 => rX4_judge F (wkAd (gWitnessworks_house S5 l0A)) v4 (wkAd (gWitnessworks_typed S5 l0A)) l3I S5 fun v9 S10 => if v9 = 0 then (rX11_standsAlready F l0A l2I l3I S10 fun v15 S16 => if v15 = 0 then (if (gWitnessworks_claimCount S16 l0A) < (16 : Int32) then (¬ ((gWitnessworks_claimCount S16 l0A) < 0 ∨ S16.len (wkAd (gWitnessworks_claims S16 l0A)) ≤ ((gWitnessworks_claimCount S16 l0A)).toNatClampNeg) ∧ ∃ k27 n28 : Nat, (0 + k7) + k27 ≤ k ∧ (0 + n8) + n28 ≤ n ∧ rX0_begin F k27 n28 (wkAd (S16.rA (wkAd (gWitnessworks_claims S16 l0A)) ((gWitnessworks_claimCount S16 l0A)).toNatClampNeg)) l1I l2I l3I (wkAd (gWitnessworks_typed S16 l0A)) S16 fun v24 S25 => wkLt (wu_Witnessworks_claimCount S25 l0A ((gWitnessworks_claimCount S25 l0A) + (1 : Int32))) fun S29 => ¬ (l1I < 0 ∨ S29.len (wkAd (gWitnessworks_earned S29 l0A)) ≤ (l1I).toNatClampNeg) ∧ if (gRow_count S29 (wkAd (gEntry_row S29 v4))) ≤ (gRow_count S29 (wkAd (gWitnessworks_typed S29 l0A))) then (¬ (l1I < 0 ∨ S29.len (wkAd (gWitnessworks_earned S29 l0A)) ≤ (l1I).toNatClampNeg) ∧ wkLt (wuI S29 (wkAd (gWitnessworks_earned S29 l0A)) l1I ((S29.rI (wkAd (gWitnessworks_earned S29 l0A)) (l1I).toNatClampNeg) + (1 : Int32))) fun S33 => Φ (0 : Int32) S33) else (¬ (l1I < 0 ∨ S29.len (wkAd (gWitnessworks_earned S29 l0A)) ≤ (l1I).toNatClampNeg) ∧ wkLt (wuI S29 (wkAd (gWitnessworks_earned S29 l0A)) l1I ((S29.rI (wkAd (gWitnessworks_earned S29 l0A)) (l1I).toNatClampNeg) + (3 : Int32))) fun S35 => Φ (0 : Int32) S35)) else ((0 + k7) + 1 ≤ k ∧ (0 + n8) + 6 ≤ n ∧ Ψ "java/lang/IllegalStateException" S16)) else (Φ v9 S16)) else (Φ v9 S10)) Ψ) else (0 + 1 ≤ k ∧ 0 + 6 ≤ n ∧ Ψ "java/lang/IndexOutOfBoundsException" S))
set_option maxHeartbeats 4000000 in
set_option maxRecDepth 100000 in
theorem tX11_claim {l : Launch} {g : wkG} {F : Nat} {k n : Nat}  {S : wPS} {l0A : Nat} {l1I : Int32} {l2I : Int32} {l3I : Int32} {Φ : (Int32 → wPS → Prop)} {Ψ : String → wPS → Prop} (hst : wkSta g) (hex : wkExA g) (hlt : l.stackTraces = false) (hW : wkWF S) (hl0A : wkIs S l0A 11) (h : rX11_claim F k n l0A l1I l2I l3I S Φ Ψ) : wkMetX l g yX11_claim wvX11_claim 56 k n [.ref l0A, .int l1I, .int l2I, .int l3I] S (fun v' S'' => ∃ v : Int32, v' = some (.int v) ∧ Φ v S'' ∧ wkWF S'' ∧ wkExt S S'') (fun E S'' => Ψ E S'' ∧ wkWF S'' ∧ wkExt S S'') := by
  refine wkMetX_of (ret := (some .int)) (by decide) rfl (Nat.le_of_ble_eq_true rfl) rfl hex hlt (by decide) (fun X hg C hR E EX ET => ?_)
  subst hg
  have hE : wkExt S S := wkExt.rf
  have hd : 56 ≤ 56 := Nat.le_refl _
  show wkGo l X 6 0 0 0 S [some (.ref l0A), some (.int l1I), some (.int l2I), some (.int l3I), none, none] []
  unfold rX11_claim at h
  refine wk_iload_n C dX11_claim_0 rfl rfl ?_
  refine wk_if_lt C (tgt := 12) dX11_claim_1 (by decide) (fun c1 => ?_) (fun c1 => ?_)
  · rw [if_pos c1] at h
    obtain ⟨t2a, t2b, h⟩ := h
    exact ET _ _ _ _ _ _ (386, 388, 390, "java/lang/IndexOutOfBoundsException", "no such person") (by decide +kernel) (Nat.le_of_ble_eq_true rfl) (Or.inr ⟨dX11_claim_12, dX11_claim_15, dX11_claim_16, dX11_claim_19, dX11_claim_22⟩) ⟨h, hW, hE⟩ t2a t2b
  · rw [if_neg c1] at h
    refine wk_iload_n C dX11_claim_4 rfl rfl ?_
    refine wk_aload_n C dX11_claim_5 rfl rfl ?_
    refine wk_get C (v := .int (gWitnessworks_personCount S l0A)) huX11_claim_11 hl0A.1 (fun cy => wAt_11 cy _ hl0A.2) rfl 13 (by decide) (List.mem_of_getElem? (i := 1) rfl) rfl rfl dX11_claim_6 ?_
    refine wk_icmp_lt C (tgt := 23) dX11_claim_9 (by decide) (fun c3 => ?_) (fun c3 => ?_)
    · rw [if_pos c3] at h
      refine wk_aload_n C dX11_claim_23 rfl rfl ?_
      refine wk_iload_n C dX11_claim_24 rfl rfl ?_
      obtain ⟨k7, n8, hk7, hn8, h⟩ := h
      refine wk_callVX C hR EX (As := [.int l2I]) (cnt := 1) (tX11_refreshed (l := l) hst hex hlt hW hl0A h) rfl (wkGoodV (List.mem_of_getElem? (i := 2) rfl) (List.mem_of_getElem? (i := 3) rfl) (List.mem_of_getElem? (i := 4) rfl) (List.mem_of_getElem? (i := 5) rfl) hbX11_claim_X11_refreshed gdX11_refreshed) (Nat.le_trans (by decide : 55 + 1 ≤ 56) hd) (by decide) hl0A.1 (fun cy => wAt_11 cy _ hl0A.2) rfl ⟨by decide, by decide, by decide +kernel⟩ rfl rfl (Nat.le_of_ble_eq_true rfl) hk7 hn8 dX11_claim_25 (fun E S' q => ⟨q.1, q.2.1, wkExt.tr hE q.2.2⟩) (fun v' S5 hp => ?_)
      obtain ⟨v4, rfl, h, hWS5, hXS5, hIS5⟩ := hp
      refine wk_astore C (lv' := [some (.ref l0A), some (.int l1I), some (.int l2I), some (.int l3I), some (.ref v4), none]) dX11_claim_28 (by decide) rfl ?_
      refine wk_aload_n C dX11_claim_30 rfl rfl ?_
      refine wk_get C huX11_claim_11 (hXS5 _ _ hl0A).1 (fun cy => wAt_11 cy _ (hXS5 _ _ hl0A).2) rfl 0 (by decide) (List.mem_of_getElem? (i := 6) rfl) rfl (congrArg some (congrArg va_rf (wf_Witnessworks_house hWS5 (hXS5 _ _ hl0A)).1)) dX11_claim_31 ?_
      refine wk_aload C dX11_claim_34 rfl ?_
      refine wk_aload_n C dX11_claim_36 rfl rfl ?_
      refine wk_get C huX11_claim_11 (hXS5 _ _ hl0A).1 (fun cy => wAt_11 cy _ (hXS5 _ _ hl0A).2) rfl 11 (by decide) (List.mem_of_getElem? (i := 7) rfl) rfl (congrArg some (congrArg va_rf (wf_Witnessworks_typed hWS5 (hXS5 _ _ hl0A)).1)) dX11_claim_37 ?_
      refine wk_iload_n C dX11_claim_40 rfl rfl ?_
      refine wk_callV C hR (As := [.ref v4, .ref (wkAd (gWitnessworks_typed S5 l0A)), .int l3I]) (cnt := 3) (tX4_judge (l := l) hWS5 (wf_Witnessworks_house hWS5 (hXS5 _ _ hl0A)).2 hIS5 (wf_Witnessworks_typed hWS5 (hXS5 _ _ hl0A)).2 h) rfl (wkGoodV (List.mem_of_getElem? (i := 8) rfl) (List.mem_of_getElem? (i := 9) rfl) (List.mem_of_getElem? (i := 10) rfl) (List.mem_of_getElem? (i := 11) rfl) hbX11_claim_X4_judge gdX4_judge) (Nat.le_trans (by decide : 53 + 1 ≤ 56) hd) (by decide) (wf_Witnessworks_house hWS5 (hXS5 _ _ hl0A)).2.1 (fun cy => wAt_4 cy _ (wf_Witnessworks_house hWS5 (hXS5 _ _ hl0A)).2.2) rfl ⟨by decide, by decide, by decide +kernel⟩ rfl rfl (Nat.le_of_ble_eq_true rfl) hk7 hn8 dX11_claim_41 (fun v' S10 hp => ?_)
      obtain ⟨v9, rfl, h, hWS10, hXS10⟩ := hp
      refine wk_istore C (lv' := [some (.ref l0A), some (.int l1I), some (.int l2I), some (.int l3I), some (.ref v4), some (.int v9)]) dX11_claim_44 (by decide) rfl ?_
      refine wk_iload C dX11_claim_46 rfl ?_
      refine wk_if_ne C (tgt := 60) dX11_claim_48 (by decide) (fun c14 => ?_) (fun c14 => ?_)
      · rw [if_neg c14] at h
        refine wk_iload C dX11_claim_60 rfl ?_
        exact E _ _ _ _ _ _ hk7 hn8 dX11_claim_62 ⟨v9, rfl, h, hWS10, (wkExt.tr (wkExt.tr hE hXS5) hXS10)⟩
      · rw [if_pos c14] at h
        refine wk_aload_n C dX11_claim_51 rfl rfl ?_
        refine wk_iload_n C dX11_claim_52 rfl rfl ?_
        refine wk_iload_n C dX11_claim_53 rfl rfl ?_
        refine wk_callV C hR (As := [.int l2I, .int l3I]) (cnt := 2) (tX11_standsAlready (l := l) hWS10 (hXS10 _ _ (hXS5 _ _ hl0A)) h) rfl (wkGoodV (List.mem_of_getElem? (i := 12) rfl) (List.mem_of_getElem? (i := 13) rfl) (List.mem_of_getElem? (i := 14) rfl) (List.mem_of_getElem? (i := 5) rfl) hbX11_claim_X11_standsAlready gdX11_standsAlready) (Nat.le_trans (by decide : 3 + 1 ≤ 56) hd) (by decide) (hXS10 _ _ (hXS5 _ _ hl0A)).1 (fun cy => wAt_11 cy _ (hXS10 _ _ (hXS5 _ _ hl0A)).2) rfl ⟨by decide, by decide, by decide +kernel⟩ rfl rfl (Nat.le_of_ble_eq_true rfl) hk7 hn8 dX11_claim_54 (fun v' S16 hp => ?_)
        obtain ⟨v15, rfl, h, hWS16, hXS16⟩ := hp
        refine wk_if_eq C (tgt := 63) dX11_claim_57 (by decide) (fun c20 => ?_) (fun c20 => ?_)
        · rw [if_pos c20] at h
          refine wk_aload_n C dX11_claim_63 rfl rfl ?_
          refine wk_get C (v := .int (gWitnessworks_claimCount S16 l0A)) huX11_claim_11 (hXS16 _ _ (hXS10 _ _ (hXS5 _ _ hl0A))).1 (fun cy => wAt_11 cy _ (hXS16 _ _ (hXS10 _ _ (hXS5 _ _ hl0A))).2) rfl 15 (by decide) (List.mem_of_getElem? (i := 15) rfl) rfl rfl dX11_claim_64 ?_
          refine wk_bipush C (v := 16) dX11_claim_67 (by decide) ?_
          refine wk_icmp_lt C (tgt := 83) dX11_claim_69 (by decide) (fun c21 => ?_) (fun c21 => ?_)
          · rw [if_pos c21] at h
            refine wk_aload_n C dX11_claim_83 rfl rfl ?_
            refine wk_get C huX11_claim_11 (hXS16 _ _ (hXS10 _ _ (hXS5 _ _ hl0A))).1 (fun cy => wAt_11 cy _ (hXS16 _ _ (hXS10 _ _ (hXS5 _ _ hl0A))).2) rfl 14 (by decide) (List.mem_of_getElem? (i := 16) rfl) rfl (congrArg some (congrArg va_rf (wf_Witnessworks_claims hWS16 (hXS16 _ _ (hXS10 _ _ (hXS5 _ _ hl0A)))).1)) dX11_claim_84 ?_
            refine wk_aload_n C dX11_claim_87 rfl rfl ?_
            refine wk_get C (v := .int (gWitnessworks_claimCount S16 l0A)) huX11_claim_11 (hXS16 _ _ (hXS10 _ _ (hXS5 _ _ hl0A))).1 (fun cy => wAt_11 cy _ (hXS16 _ _ (hXS10 _ _ (hXS5 _ _ hl0A))).2) rfl 15 (by decide) (List.mem_of_getElem? (i := 15) rfl) rfl rfl dX11_claim_88 ?_
            obtain ⟨i22, h⟩ := h
            have w23 := wf_RClaim hWS16 (wf_Witnessworks_claims hWS16 (hXS16 _ _ (hXS10 _ _ (hXS5 _ _ hl0A)))).2 (Nat.not_le.mp fun q => i22 (Or.inr q))
            refine wk_aaldClaim C (wf_Witnessworks_claims hWS16 (hXS16 _ _ (hXS10 _ _ (hXS5 _ _ hl0A)))).2.1 (wf_Witnessworks_claims hWS16 (hXS16 _ _ (hXS10 _ _ (hXS5 _ _ hl0A)))).2.2 i22 w23.1 dX11_claim_91 ?_
            refine wk_iload_n C dX11_claim_92 rfl rfl ?_
            refine wk_iload_n C dX11_claim_93 rfl rfl ?_
            refine wk_iload_n C dX11_claim_94 rfl rfl ?_
            refine wk_aload_n C dX11_claim_95 rfl rfl ?_
            refine wk_get C huX11_claim_11 (hXS16 _ _ (hXS10 _ _ (hXS5 _ _ hl0A))).1 (fun cy => wAt_11 cy _ (hXS16 _ _ (hXS10 _ _ (hXS5 _ _ hl0A))).2) rfl 11 (by decide) (List.mem_of_getElem? (i := 7) rfl) rfl (congrArg some (congrArg va_rf (wf_Witnessworks_typed hWS16 (hXS16 _ _ (hXS10 _ _ (hXS5 _ _ hl0A)))).1)) dX11_claim_96 ?_
            obtain ⟨k27, n28, hk27, hn28, h⟩ := h
            refine wk_callV C hR (As := [.int l1I, .int l2I, .int l3I, .ref (wkAd (gWitnessworks_typed S16 l0A))]) (cnt := 4) (tX0_begin (l := l) hWS16 w23.2 (wf_Witnessworks_typed hWS16 (hXS16 _ _ (hXS10 _ _ (hXS5 _ _ hl0A)))).2 h) rfl (wkGoodV (List.mem_of_getElem? (i := 17) rfl) (List.mem_of_getElem? (i := 18) rfl) (List.mem_of_getElem? (i := 19) rfl) (List.mem_of_getElem? (i := 20) rfl) hbX11_claim_X0_begin gdX0_begin) (Nat.le_trans (by decide : 2 + 1 ≤ 56) hd) (by decide) w23.2.1 (fun cy => wAt_0 cy _ w23.2.2) rfl ⟨by decide, by decide, by decide +kernel⟩ rfl rfl (Nat.le_of_ble_eq_true rfl) hk27 hn28 dX11_claim_99 (fun v' S25 hp => ?_)
            obtain ⟨v24, rfl, h, hWS25, hXS25⟩ := hp
            refine wk_aload_n C dX11_claim_102 rfl rfl ?_
            refine wk_dup C dX11_claim_103 rfl ?_
            refine wk_get C (v := .int (gWitnessworks_claimCount S25 l0A)) huX11_claim_11 (hXS25 _ _ (hXS16 _ _ (hXS10 _ _ (hXS5 _ _ hl0A)))).1 (fun cy => wAt_11 cy _ (hXS25 _ _ (hXS16 _ _ (hXS10 _ _ (hXS5 _ _ hl0A)))).2) rfl 15 (by decide) (List.mem_of_getElem? (i := 15) rfl) rfl rfl dX11_claim_104 ?_
            refine wk_iconst C (v := 1) dX11_claim_107 (by decide) ?_
            refine wk_iadd C dX11_claim_108 rfl ?_
            obtain ⟨S29, eS29, h⟩ := wkLt_some h
            refine wk_put C (S' := S29) huX11_claim_11 (hXS25 _ _ (hXS16 _ _ (hXS10 _ _ (hXS5 _ _ hl0A)))).1 (fun cy => wAt_11 cy _ (hXS25 _ _ (hXS16 _ _ (hXS10 _ _ (hXS5 _ _ hl0A)))).2) rfl 15 (by decide) (List.mem_of_getElem? (i := 15) rfl) rfl tyX11_ok nmX11 rfl (ty := .int) rfl rfl rfl (by show 15 < 19; decide) (fun cy b => by rw [eS29]; exact wSt_11_15 cy _ (hXS25 _ _ (hXS16 _ _ (hXS10 _ _ (hXS5 _ _ hl0A)))).2 _ b) (by rw [eS29]) dX11_claim_109 ?_
            have hWS29 : wkWF S29 := by rw [eS29]; exact hWS25
            have hXS29 : wkExt S25 S29 := by rw [eS29]; exact wkExt.rf
            refine wk_aload_n C dX11_claim_112 rfl rfl ?_
            refine wk_get C huX11_claim_11 (hXS29 _ _ (hXS25 _ _ (hXS16 _ _ (hXS10 _ _ (hXS5 _ _ hl0A))))).1 (fun cy => wAt_11 cy _ (hXS29 _ _ (hXS25 _ _ (hXS16 _ _ (hXS10 _ _ (hXS5 _ _ hl0A))))).2) rfl 12 (by decide) (List.mem_of_getElem? (i := 21) rfl) rfl (congrArg some (congrArg va_rf (wf_Witnessworks_earned hWS29 (hXS29 _ _ (hXS25 _ _ (hXS16 _ _ (hXS10 _ _ (hXS5 _ _ hl0A)))))).1)) dX11_claim_113 ?_
            refine wk_iload_n C dX11_claim_116 rfl rfl ?_
            refine wk_dup2 C dX11_claim_117 rfl rfl ?_
            obtain ⟨i30, h⟩ := h
            refine wk_iald C (wf_Witnessworks_earned hWS29 (hXS29 _ _ (hXS25 _ _ (hXS16 _ _ (hXS10 _ _ (hXS5 _ _ hl0A)))))).2.1 (wf_Witnessworks_earned hWS29 (hXS29 _ _ (hXS25 _ _ (hXS16 _ _ (hXS10 _ _ (hXS5 _ _ hl0A)))))).2.2 i30 rfl dX11_claim_118 ?_
            refine wk_aload_n C dX11_claim_119 rfl rfl ?_
            refine wk_get C huX11_claim_11 (hXS29 _ _ (hXS25 _ _ (hXS16 _ _ (hXS10 _ _ (hXS5 _ _ hl0A))))).1 (fun cy => wAt_11 cy _ (hXS29 _ _ (hXS25 _ _ (hXS16 _ _ (hXS10 _ _ (hXS5 _ _ hl0A))))).2) rfl 11 (by decide) (List.mem_of_getElem? (i := 7) rfl) rfl (congrArg some (congrArg va_rf (wf_Witnessworks_typed hWS29 (hXS29 _ _ (hXS25 _ _ (hXS16 _ _ (hXS10 _ _ (hXS5 _ _ hl0A)))))).1)) dX11_claim_120 ?_
            refine wk_get C (v := .int (gRow_count S29 (wkAd (gWitnessworks_typed S29 l0A)))) huX11_claim_9 (wf_Witnessworks_typed hWS29 (hXS29 _ _ (hXS25 _ _ (hXS16 _ _ (hXS10 _ _ (hXS5 _ _ hl0A)))))).2.1 (fun cy => wAt_9 cy _ (wf_Witnessworks_typed hWS29 (hXS29 _ _ (hXS25 _ _ (hXS16 _ _ (hXS10 _ _ (hXS5 _ _ hl0A)))))).2.2) rfl 1 (by decide) (List.mem_of_getElem? (i := 22) rfl) rfl rfl dX11_claim_123 ?_
            refine wk_aload C dX11_claim_126 rfl ?_
            refine wk_get C huX11_claim_3 (hXS29 _ _ (hXS25 _ _ (hXS16 _ _ (hXS10 _ _ hIS5)))).1 (fun cy => wAt_3 cy _ (hXS29 _ _ (hXS25 _ _ (hXS16 _ _ (hXS10 _ _ hIS5)))).2) rfl 13 (by decide) (List.mem_of_getElem? (i := 23) rfl) rfl (congrArg some (congrArg va_rf (wf_Entry_row hWS29 (hXS29 _ _ (hXS25 _ _ (hXS16 _ _ (hXS10 _ _ hIS5))))).1)) dX11_claim_128 ?_
            refine wk_get C (v := .int (gRow_count S29 (wkAd (gEntry_row S29 v4)))) huX11_claim_9 (wf_Entry_row hWS29 (hXS29 _ _ (hXS25 _ _ (hXS16 _ _ (hXS10 _ _ hIS5))))).2.1 (fun cy => wAt_9 cy _ (wf_Entry_row hWS29 (hXS29 _ _ (hXS25 _ _ (hXS16 _ _ (hXS10 _ _ hIS5))))).2.2) rfl 1 (by decide) (List.mem_of_getElem? (i := 22) rfl) rfl rfl dX11_claim_131 ?_
            refine wk_icmp_ge C (tgt := 141) dX11_claim_134 (by decide) (fun c31 => ?_) (fun c31 => ?_)
            · rw [if_pos c31] at h
              refine wk_iconst C (v := 1) dX11_claim_141 (by decide) ?_
              refine wk_iadd C dX11_claim_142 rfl ?_
              obtain ⟨i32, h⟩ := h
              obtain ⟨S33, eS33, h⟩ := wkLt_some h
              refine wk_iast C (wf_Witnessworks_earned hWS29 (hXS29 _ _ (hXS25 _ _ (hXS16 _ _ (hXS10 _ _ (hXS5 _ _ hl0A)))))).2.1 (wf_Witnessworks_earned hWS29 (hXS29 _ _ (hXS25 _ _ (hXS16 _ _ (hXS10 _ _ (hXS5 _ _ hl0A)))))).2.2 i32 eS33.symm dX11_claim_143 ?_
              have hWS33 : wkWF S33 := by rw [eS33]; exact hWS29
              have hXS33 : wkExt S29 S33 := by rw [eS33]; exact wkExt.rf
              refine wk_iconst C (v := 0) dX11_claim_144 (by decide) ?_
              exact E _ _ _ _ _ _ hk27 hn28 dX11_claim_145 ⟨(0 : Int32), rfl, h, hWS33, (wkExt.tr (wkExt.tr (wkExt.tr (wkExt.tr (wkExt.tr (wkExt.tr hE hXS5) hXS10) hXS16) hXS25) hXS29) hXS33)⟩
            · rw [if_neg c31] at h
              refine wk_iconst C (v := 3) dX11_claim_137 (by decide) ?_
              refine wk_goto C (tgt := 142) dX11_claim_138 (by decide) ?_
              refine wk_iadd C dX11_claim_142 rfl ?_
              obtain ⟨i34, h⟩ := h
              obtain ⟨S35, eS35, h⟩ := wkLt_some h
              refine wk_iast C (wf_Witnessworks_earned hWS29 (hXS29 _ _ (hXS25 _ _ (hXS16 _ _ (hXS10 _ _ (hXS5 _ _ hl0A)))))).2.1 (wf_Witnessworks_earned hWS29 (hXS29 _ _ (hXS25 _ _ (hXS16 _ _ (hXS10 _ _ (hXS5 _ _ hl0A)))))).2.2 i34 eS35.symm dX11_claim_143 ?_
              have hWS35 : wkWF S35 := by rw [eS35]; exact hWS29
              have hXS35 : wkExt S29 S35 := by rw [eS35]; exact wkExt.rf
              refine wk_iconst C (v := 0) dX11_claim_144 (by decide) ?_
              exact E _ _ _ _ _ _ hk27 hn28 dX11_claim_145 ⟨(0 : Int32), rfl, h, hWS35, (wkExt.tr (wkExt.tr (wkExt.tr (wkExt.tr (wkExt.tr (wkExt.tr hE hXS5) hXS10) hXS16) hXS25) hXS29) hXS35)⟩
          · rw [if_neg c21] at h
            obtain ⟨t36a, t36b, h⟩ := h
            exact ET _ _ _ _ _ _ (90, 398, 94, "java/lang/IllegalStateException", "16 claims stand") (by decide +kernel) (Nat.le_of_ble_eq_true rfl) (Or.inr ⟨dX11_claim_72, dX11_claim_75, dX11_claim_76, dX11_claim_79, dX11_claim_82⟩) ⟨h, hWS16, (wkExt.tr (wkExt.tr (wkExt.tr hE hXS5) hXS10) hXS16)⟩ t36a t36b
        · rw [if_neg c20] at h
          refine wk_iload C dX11_claim_60 rfl ?_
          exact E _ _ _ _ _ _ hk7 hn8 dX11_claim_62 ⟨v9, rfl, h, hWS16, (wkExt.tr (wkExt.tr (wkExt.tr hE hXS5) hXS10) hXS16)⟩
    · rw [if_neg c3] at h
      obtain ⟨t37a, t37b, h⟩ := h
      exact ET _ _ _ _ _ _ (386, 388, 390, "java/lang/IndexOutOfBoundsException", "no such person") (by decide +kernel) (Nat.le_of_ble_eq_true rfl) (Or.inr ⟨dX11_claim_12, dX11_claim_15, dX11_claim_16, dX11_claim_19, dX11_claim_22⟩) ⟨h, hW, hE⟩ t37a t37b
def wvX11_settle : List Cond := .code yX11_settle cX11_settle 3 (some .int) :: (([.fieldLink RX11 86 "Witnessworks" "entryCount" "I", .fieldLink RX11 415 "Witnessworks" "errorCount" "I", .methodLink RX11 144 yX11_refreshed, .instanceMethod yX11_refreshed, .selects RX11 yX11_refreshed yX11_refreshed, .initialized RX11, .methodLink RX11 421 yX11_settleEntry, .instanceMethod yX11_settleEntry, .selects RX11 yX11_settleEntry yX11_settleEntry, .methodLink RX11 425 yX11_settleClaims, .instanceMethod yX11_settleClaims, .selects RX11 yX11_settleClaims yX11_settleClaims, .fieldLink RX11 418 "Witnessworks" "settlings" "I"] : List Cond) ++ ((wsX110) ++ (wvX11_refreshed ++ (wvX11_settleEntry ++ (wvX11_settleClaims)))))
theorem huX11_settle_11 : ∀ w ∈ u_ws RX11 TX11 19, w ∈ wvX11_settle := fun w h => List.mem_cons_of_mem _ (List.mem_append_right _ (List.mem_append_left _ h))
theorem hbX11_settle_X11_refreshed : ∀ w ∈ wvX11_refreshed, w ∈ wvX11_settle := fun w h => List.mem_cons_of_mem _ (List.mem_append_right _ (List.mem_append_right _ (List.mem_append_left _ h)))
theorem hbX11_settle_X11_settleEntry : ∀ w ∈ wvX11_settleEntry, w ∈ wvX11_settle := fun w h => List.mem_cons_of_mem _ (List.mem_append_right _ (List.mem_append_right _ (List.mem_append_right _ (List.mem_append_left _ h))))
theorem hbX11_settle_X11_settleClaims : ∀ w ∈ wvX11_settleClaims, w ∈ wvX11_settle := fun w h => List.mem_cons_of_mem _ (List.mem_append_right _ (List.mem_append_right _ (List.mem_append_right _ (List.mem_append_right _ h))))
theorem gdX11_settle : ∀ w ∈ wvX11_settle, wkGd w := wkGdC rfl (wkGdA (wkGdL (by decide +kernel)) (wkGdA gdX11 (wkGdA gdX11_refreshed (wkGdA gdX11_settleEntry gdX11_settleClaims))))
def rX11_settle_b0 (F : Nat) (k n : Nat) (rec : Nat → Nat → Nat → Nat → Int32 → Int32 → wPS → (Int32 → wPS → Prop) → (String → wPS → Prop) → Prop) (c s : Nat) (l0A : Nat) (l1I : Int32) (l2I : Int32) (S : wPS) (Φ : (Int32 → wPS → Prop)) (Ψ : String → wPS → Prop) : Prop :=
  if (gWitnessworks_entryCount S l0A) ≤ l2I then (Φ ((gWitnessworks_errorCount S l0A) - l1I) S) else (∃ k5 n6 : Nat, c + k5 ≤ k ∧ s + n6 ≤ n ∧ rX11_refreshed F k5 n6 l0A l2I S (fun v2 S3 => ∃ k10 n11 : Nat, (c + k5) + k10 ≤ k ∧ (s + n6) + n11 ≤ n ∧ rX11_settleEntry F k10 n11 l0A l2I v2 S3 fun v7 S8 => ∃ k15 n16 : Nat, ((c + k5) + k10) + k15 ≤ k ∧ ((s + n6) + n11) + n16 ≤ n ∧ rX11_settleClaims F k15 n16 l0A l2I S8 fun v12 S13 => wkLt (l2I + (1 : Int32)) fun x17 => rec 0 (((c + k5) + k10) + k15) (((s + n6) + n11) + n16) l0A l1I x17 S13 Φ Ψ) Ψ)
def rX11_settle_go (F : Nat) (k n : Nat) : Nat → Nat → Nat → Nat → Nat → Int32 → Int32 → wPS → (Int32 → wPS → Prop) → (String → wPS → Prop) → Prop
  | 0, _, _, _, _, _, _, _, _, _ => False
  | k' + 1, lab, c, s, l0A, l1I, l2I, S, Φ, Ψ => if lab = 0 then rX11_settle_b0 F k n (rX11_settle_go F k n k') c s l0A l1I l2I S Φ Ψ else False
def rX11_settle_s (F : Nat) (k n : Nat) (rec : Nat → Nat → Nat → Nat → Int32 → Int32 → wPS → (Int32 → wPS → Prop) → (String → wPS → Prop) → Prop) (l0A : Nat) (S : wPS) (Φ : (Int32 → wPS → Prop)) (Ψ : String → wPS → Prop) : Prop :=
  wkLt ((gWitnessworks_errorCount S l0A)) fun x18 => wkLt (wu_Witnessworks_settlings S l0A ((gWitnessworks_settlings S l0A) + (1 : Int32))) fun S19 => rec 0 0 0 l0A x18 (0 : Int32) S19 Φ Ψ
def rX11_settle (F : Nat) (k n : Nat) (l0A : Nat) (S : wPS) (Φ : (Int32 → wPS → Prop)) (Ψ : String → wPS → Prop) : Prop := rX11_settle_s F k n (rX11_settle_go F k n F) l0A S Φ Ψ
set_option maxHeartbeats 4000000 in
set_option maxRecDepth 100000 in
theorem tX11_settle_go {k n : Nat} {l : Launch} {X : wkX} {d F : Nat} {S0 : wPS} {Φ : (Int32 → wPS → Prop)} {Ψ : String → wPS → Prop} (hst : wkSta (wkXg X)) (C : wkC X cX11_settle RX11 3 wvX11_settle) (hR : wkRm X d k n) (hd : 56 ≤ d) (hex : wkExA (wkXg X)) (hlt : l.stackTraces = false) (EX : wkEndX l X cX11_settle 3 k n (fun E S'' => Ψ E S'' ∧ wkWF S'' ∧ wkExt S0 S'')) (ET : wkEndT l X cX11_settle 3 k n (fun E S'' => Ψ E S'' ∧ wkWF S'' ∧ wkExt S0 S'')) (E : wkEnd l X cX11_settle 3 (some .int) k n (fun v' S'' => ∃ v : Int32, v' = some (.int v) ∧ Φ v S'' ∧ wkWF S'' ∧ wkExt S0 S'')) : ∀ k' : Nat, (∀ (c s : Nat), c ≤ k → s ≤ n → ∀ (l0A : Nat) (l1I : Int32) (l2I : Int32) (S : wPS), wkWF S → wkExt S0 S → wkIs S l0A 11 → rX11_settle_go F k n k' 0 c s l0A l1I l2I S Φ Ψ → wkGo l X 3 c s 17 S [some (.ref l0A), some (.int l1I), some (.int l2I)] []) := by
  intro k'
  induction k' with
  | zero => exact fun c s hc hs l0A l1I l2I S hW hE hl0A h => h.elim
  | succ k' ih =>
    · intro c s hc hs l0A l1I l2I S hW hE hl0A h
      have h : rX11_settle_b0 F k n (rX11_settle_go F k n k') c s l0A l1I l2I S Φ Ψ := by
        rw [rX11_settle_go, if_pos (rfl : (0 : Nat) = 0)] at h
        exact h
      unfold rX11_settle_b0 at h
      refine wk_iload_n C dX11_settle_17 rfl rfl ?_
      refine wk_aload_n C dX11_settle_18 rfl rfl ?_
      refine wk_get C (v := .int (gWitnessworks_entryCount S l0A)) huX11_settle_11 hl0A.1 (fun cy => wAt_11 cy _ hl0A.2) rfl 2 (by decide) (List.mem_of_getElem? (i := 1) rfl) rfl rfl dX11_settle_19 ?_
      refine wk_icmp_ge C (tgt := 46) dX11_settle_22 (by decide) (fun c1 => ?_) (fun c1 => ?_)
      · rw [if_pos c1] at h
        refine wk_aload_n C dX11_settle_46 rfl rfl ?_
        refine wk_get C (v := .int (gWitnessworks_errorCount S l0A)) huX11_settle_11 hl0A.1 (fun cy => wAt_11 cy _ hl0A.2) rfl 17 (by decide) (List.mem_of_getElem? (i := 2) rfl) rfl rfl dX11_settle_47 ?_
        refine wk_iload_n C dX11_settle_50 rfl rfl ?_
        refine wk_isub C dX11_settle_51 rfl ?_
        exact E _ _ _ _ _ _ hc hs dX11_settle_52 ⟨((gWitnessworks_errorCount S l0A) - l1I), rfl, h, hW, hE⟩
      · rw [if_neg c1] at h
        refine wk_aload_n C dX11_settle_25 rfl rfl ?_
        refine wk_iload_n C dX11_settle_26 rfl rfl ?_
        refine wk_aload_n C dX11_settle_27 rfl rfl ?_
        refine wk_iload_n C dX11_settle_28 rfl rfl ?_
        obtain ⟨k5, n6, hk5, hn6, h⟩ := h
        refine wk_callVX C hR EX (As := [.int l2I]) (cnt := 1) (tX11_refreshed (l := l) hst hex hlt hW hl0A h) rfl (wkGoodV (List.mem_of_getElem? (i := 3) rfl) (List.mem_of_getElem? (i := 4) rfl) (List.mem_of_getElem? (i := 5) rfl) (List.mem_of_getElem? (i := 6) rfl) hbX11_settle_X11_refreshed gdX11_refreshed) (Nat.le_trans (by decide : 55 + 1 ≤ 56) hd) (by decide) hl0A.1 (fun cy => wAt_11 cy _ hl0A.2) rfl ⟨by decide, by decide, by decide +kernel⟩ rfl rfl (Nat.le_of_ble_eq_true rfl) hk5 hn6 dX11_settle_29 (fun E S' q => ⟨q.1, q.2.1, wkExt.tr hE q.2.2⟩) (fun v' S3 hp => ?_)
        obtain ⟨v2, rfl, h, hWS3, hXS3, hIS3⟩ := hp
        obtain ⟨k10, n11, hk10, hn11, h⟩ := h
        refine wk_callV C hR (As := [.int l2I, .ref v2]) (cnt := 2) (tX11_settleEntry (l := l) hWS3 (hXS3 _ _ hl0A) hIS3 h) rfl (wkGoodV (List.mem_of_getElem? (i := 7) rfl) (List.mem_of_getElem? (i := 8) rfl) (List.mem_of_getElem? (i := 9) rfl) (List.mem_of_getElem? (i := 6) rfl) hbX11_settle_X11_settleEntry gdX11_settleEntry) (Nat.le_trans (by decide : 3 + 1 ≤ 56) hd) (by decide) (hXS3 _ _ hl0A).1 (fun cy => wAt_11 cy _ (hXS3 _ _ hl0A).2) rfl ⟨by decide, by decide, by decide +kernel⟩ rfl rfl (Nat.le_of_ble_eq_true rfl) hk10 hn11 dX11_settle_32 (fun v' S8 hp => ?_)
        obtain ⟨v7, rfl, h, hWS8, hXS8⟩ := hp
        refine wk_aload_n C dX11_settle_35 rfl rfl ?_
        refine wk_iload_n C dX11_settle_36 rfl rfl ?_
        obtain ⟨k15, n16, hk15, hn16, h⟩ := h
        refine wk_callV C hR (As := [.int l2I]) (cnt := 1) (tX11_settleClaims (l := l) hWS8 (hXS8 _ _ (hXS3 _ _ hl0A)) h) rfl (wkGoodV (List.mem_of_getElem? (i := 10) rfl) (List.mem_of_getElem? (i := 11) rfl) (List.mem_of_getElem? (i := 12) rfl) (List.mem_of_getElem? (i := 6) rfl) hbX11_settle_X11_settleClaims gdX11_settleClaims) (Nat.le_trans (by decide : 54 + 1 ≤ 56) hd) (by decide) (hXS8 _ _ (hXS3 _ _ hl0A)).1 (fun cy => wAt_11 cy _ (hXS8 _ _ (hXS3 _ _ hl0A)).2) rfl ⟨by decide, by decide, by decide +kernel⟩ rfl rfl (Nat.le_of_ble_eq_true rfl) hk15 hn16 dX11_settle_37 (fun v' S13 hp => ?_)
        obtain ⟨v12, rfl, h, hWS13, hXS13⟩ := hp
        obtain ⟨x17, ex17, h⟩ := wkLt_some h
        refine wk_iinc C (lv' := [some (.ref l0A), some (.int l1I), some (.int x17)]) dX11_settle_40 rfl (by rw [ex17]; rfl) (by decide) rfl ?_
        refine wk_goto C (tgt := 17) dX11_settle_43 (by decide) ?_
        exact wk_forget (lv' := [some (.ref l0A), some (.int l1I), some (.int x17)]) (wkLs.le ⟨rfl, rfl, rfl, trivial⟩) (ih _ _ hk15 hn16 _ _ _ _ hWS13 (wkExt.tr (wkExt.tr (wkExt.tr hE hXS3) hXS8) hXS13) (hXS13 _ _ (hXS8 _ _ (hXS3 _ _ hl0A))) h)
set_option maxHeartbeats 4000000 in
set_option maxRecDepth 100000 in
theorem tX11_settle {l : Launch} {g : wkG} {F : Nat} {k n : Nat}  {S : wPS} {l0A : Nat} {Φ : (Int32 → wPS → Prop)} {Ψ : String → wPS → Prop} (hst : wkSta g) (hex : wkExA g) (hlt : l.stackTraces = false) (hW : wkWF S) (hl0A : wkIs S l0A 11) (h : rX11_settle F k n l0A S Φ Ψ) : wkMetX l g yX11_settle wvX11_settle 56 k n [.ref l0A] S (fun v' S'' => ∃ v : Int32, v' = some (.int v) ∧ Φ v S'' ∧ wkWF S'' ∧ wkExt S S'') (fun E S'' => Ψ E S'' ∧ wkWF S'' ∧ wkExt S S'') := by
  refine wkMetX_of (ret := (some .int)) (by decide) rfl (Nat.le_of_ble_eq_true rfl) rfl hex hlt (by decide) (fun X hg C hR E EX ET => ?_)
  subst hg
  have hE : wkExt S S := wkExt.rf
  have hd : 56 ≤ 56 := Nat.le_refl _
  show wkGo l X 3 0 0 0 S [some (.ref l0A), none, none] []
  have ih := tX11_settle_go (F := F) hst C hR hd hex hlt EX ET E F
  have h : rX11_settle_s F k n (rX11_settle_go F k n F) l0A S Φ Ψ := h
  unfold rX11_settle_s at h
  refine wk_aload_n C dX11_settle_0 rfl rfl ?_
  refine wk_get C (v := .int (gWitnessworks_errorCount S l0A)) huX11_settle_11 hl0A.1 (fun cy => wAt_11 cy _ hl0A.2) rfl 17 (by decide) (List.mem_of_getElem? (i := 2) rfl) rfl rfl dX11_settle_1 ?_
  obtain ⟨x18, ex18, h⟩ := wkLt_some h
  refine wk_topi ex18 ?_
  refine wk_istore_n C (lv' := [some (.ref l0A), some (.int x18), none]) dX11_settle_4 rfl (by decide) rfl ?_
  refine wk_aload_n C dX11_settle_5 rfl rfl ?_
  refine wk_dup C dX11_settle_6 rfl ?_
  refine wk_get C (v := .int (gWitnessworks_settlings S l0A)) huX11_settle_11 hl0A.1 (fun cy => wAt_11 cy _ hl0A.2) rfl 18 (by decide) (List.mem_of_getElem? (i := 13) rfl) rfl rfl dX11_settle_7 ?_
  refine wk_iconst C (v := 1) dX11_settle_10 (by decide) ?_
  refine wk_iadd C dX11_settle_11 rfl ?_
  obtain ⟨S19, eS19, h⟩ := wkLt_some h
  refine wk_put C (S' := S19) huX11_settle_11 hl0A.1 (fun cy => wAt_11 cy _ hl0A.2) rfl 18 (by decide) (List.mem_of_getElem? (i := 13) rfl) rfl tyX11_ok nmX11 rfl (ty := .int) rfl rfl rfl (by show 18 < 19; decide) (fun cy b => by rw [eS19]; exact wSt_11_18 cy _ hl0A.2 _ b) (by rw [eS19]) dX11_settle_12 ?_
  have hWS19 : wkWF S19 := by rw [eS19]; exact hW
  have hXS19 : wkExt S S19 := by rw [eS19]; exact wkExt.rf
  refine wk_iconst C (v := 0) dX11_settle_15 (by decide) ?_
  refine wk_istore_n C (lv' := [some (.ref l0A), some (.int x18), some (.int (0 : Int32))]) dX11_settle_16 rfl (by decide) rfl ?_
  exact wk_forget (lv' := [some (.ref l0A), some (.int x18), some (.int (0 : Int32))]) (wkLs.le ⟨rfl, rfl, rfl, trivial⟩) (ih _ _ (Nat.zero_le _) (Nat.zero_le _) _ _ _ _ hWS19 (wkExt.tr hE hXS19) (hXS19 _ _ hl0A) h)
