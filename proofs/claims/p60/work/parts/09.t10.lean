def wvX5_valueOf : List Cond := .code yX5_valueOf cX5_valueOf 3 (some .long) :: (([.methodLink RX5 122 yX5_rowOf, .instanceMethod yX5_rowOf, .selects RX5 yX5_rowOf yX5_rowOf, .initialized RX5, .fieldLink RX5 13 "Witnessworks$Inequalities" "table" "[[J", .fieldLink RX5 86 "Witnessworks$Inequalities" "columns" "I"] : List Cond) ++ ((wsX50) ++ (wvX5_rowOf)))
theorem huX5_valueOf_5 : ∀ w ∈ u_ws RX5 TX5 7, w ∈ wvX5_valueOf := fun w h => List.mem_cons_of_mem _ (List.mem_append_right _ (List.mem_append_left _ h))
theorem hbX5_valueOf_X5_rowOf : ∀ w ∈ wvX5_rowOf, w ∈ wvX5_valueOf := fun w h => List.mem_cons_of_mem _ (List.mem_append_right _ (List.mem_append_right _ h))
theorem gdX5_valueOf : ∀ w ∈ wvX5_valueOf, wkGd w := wkGdC rfl (wkGdA (wkGdL (by decide +kernel)) (wkGdA gdX5 gdX5_rowOf))
def rX5_valueOf (F : Nat) (l0A : Nat) (l1I : Int32) (S : wPS) (Φ : (Int64 → wPS → Prop)) : Prop :=
  rX5_rowOf F l0A l1I S fun v1 S2 => if 0 ≤ v1 then (¬ (v1 < 0 ∨ S2.len (wkAd (gInequalities_table S2 l0A)) ≤ (v1).toNatClampNeg) ∧ ¬ ((gInequalities_columns S2 l0A) < 0 ∨ S2.len (wkAd (S2.rA (wkAd (gInequalities_table S2 l0A)) (v1).toNatClampNeg)) ≤ ((gInequalities_columns S2 l0A)).toNatClampNeg) ∧ Φ (S2.rJ (wkAd (S2.rA (wkAd (gInequalities_table S2 l0A)) (v1).toNatClampNeg)) ((gInequalities_columns S2 l0A)).toNatClampNeg) S2) else (Φ (0 : Int64) S2)
set_option maxHeartbeats 4000000 in
set_option maxRecDepth 100000 in
theorem tX5_valueOf {l : Launch} {g : wkG} {F : Nat}  {S : wPS} {l0A : Nat} {l1I : Int32} {Φ : (Int64 → wPS → Prop)} (hW : wkWF S) (hl0A : wkIs S l0A 5) (h : rX5_valueOf F l0A l1I S Φ) : wkMet l g yX5_valueOf wvX5_valueOf 1 0 0 [.ref l0A, .int l1I] S (fun v' S'' => ∃ v : Int64, v' = some (.long v) ∧ Φ v S'' ∧ wkWF S'' ∧ wkExt S S'') := by
  refine wkMet_of (ret := (some .long)) (by decide) rfl (Nat.le_of_ble_eq_true rfl) (fun X hg C hR E => ?_)
  subst hg
  have hE : wkExt S S := wkExt.rf
  have hd : 1 ≤ 1 := Nat.le_refl _
  show wkGo l X 3 0 0 0 S [some (.ref l0A), some (.int l1I), none] []
  unfold rX5_valueOf at h
  refine wk_aload_n C dX5_valueOf_0 rfl rfl ?_
  refine wk_iload_n C dX5_valueOf_1 rfl rfl ?_
  refine wk_callV C hR (As := [.int l1I]) (cnt := 1) (tX5_rowOf (l := l) hW hl0A h) rfl (wkGoodV (List.mem_of_getElem? (i := 1) rfl) (List.mem_of_getElem? (i := 2) rfl) (List.mem_of_getElem? (i := 3) rfl) (List.mem_of_getElem? (i := 4) rfl) hbX5_valueOf_X5_rowOf gdX5_rowOf) (Nat.le_trans (by decide : 0 + 1 ≤ 1) hd) (by decide) hl0A.1 (fun cy => wAt_5 cy _ hl0A.2) rfl ⟨by decide, by decide, by decide +kernel⟩ rfl rfl (Nat.le_of_ble_eq_true rfl) (Nat.le_refl 0) (Nat.le_refl 0) dX5_valueOf_2 (fun v' S2 hp => ?_)
  obtain ⟨v1, rfl, h, hWS2, hXS2⟩ := hp
  refine wk_istore_n C (lv' := [some (.ref l0A), some (.int l1I), some (.int v1)]) dX5_valueOf_5 rfl (by decide) rfl ?_
  refine wk_iload_n C dX5_valueOf_6 rfl rfl ?_
  refine wk_if_ge C (tgt := 14) dX5_valueOf_7 (by decide) (fun c6 => ?_) (fun c6 => ?_)
  · rw [if_pos c6] at h
    refine wk_aload_n C dX5_valueOf_14 rfl rfl ?_
    refine wk_get C huX5_valueOf_5 (hXS2 _ _ hl0A).1 (fun cy => wAt_5 cy _ (hXS2 _ _ hl0A).2) rfl 0 (by decide) (List.mem_of_getElem? (i := 5) rfl) rfl (congrArg some (congrArg va_rf (wf_Inequalities_table hWS2 (hXS2 _ _ hl0A)).1)) dX5_valueOf_15 ?_
    refine wk_iload_n C dX5_valueOf_18 rfl rfl ?_
    obtain ⟨i7, h⟩ := h
    have w8 := wf_R_J hWS2 (wf_Inequalities_table hWS2 (hXS2 _ _ hl0A)).2 (Nat.not_le.mp fun q => i7 (Or.inr q))
    refine wk_aald_J C (wf_Inequalities_table hWS2 (hXS2 _ _ hl0A)).2.1 (wf_Inequalities_table hWS2 (hXS2 _ _ hl0A)).2.2 i7 w8.1 dX5_valueOf_19 ?_
    refine wk_aload_n C dX5_valueOf_20 rfl rfl ?_
    refine wk_get C (v := .int (gInequalities_columns S2 l0A)) huX5_valueOf_5 (hXS2 _ _ hl0A).1 (fun cy => wAt_5 cy _ (hXS2 _ _ hl0A).2) rfl 5 (by decide) (List.mem_of_getElem? (i := 6) rfl) rfl rfl dX5_valueOf_21 ?_
    obtain ⟨i9, h⟩ := h
    refine wk_lald C w8.2.1 w8.2.2 i9 rfl dX5_valueOf_24 ?_
    exact E _ _ _ _ _ _ (Nat.le_refl 0) (Nat.le_refl 0) dX5_valueOf_25 ⟨(S2.rJ (wkAd (S2.rA (wkAd (gInequalities_table S2 l0A)) (v1).toNatClampNeg)) ((gInequalities_columns S2 l0A)).toNatClampNeg), rfl, h, hWS2, (wkExt.tr hE hXS2)⟩
  · rw [if_neg c6] at h
    refine wk_lconst C (v := 0) dX5_valueOf_10 (by decide) ?_
    refine wk_goto C (tgt := 25) dX5_valueOf_11 (by decide) ?_
    exact E _ _ _ _ _ _ (Nat.le_refl 0) (Nat.le_refl 0) dX5_valueOf_25 ⟨(0 : Int64), rfl, h, hWS2, (wkExt.tr hE hXS2)⟩
def wvX6_init : List Cond := .code yX6_init cX6_init 1 none :: (([.methodLink RX6 3 objectInit, .instanceMethod objectInit, .code objectInit ⟨#[0xb1]⟩ 1 none, .arrayClass .int, .fieldLink RX6 11 "Witnessworks$Machines" "byZero" "[I", .fieldLink RX6 15 "Witnessworks$Machines" "byOne" "[I", .fieldLink RX6 18 "Witnessworks$Machines" "finals" "[I", .fieldLink RX6 21 "Witnessworks$Machines" "letters" "[I", .fieldLink RX6 24 "Witnessworks$Machines" "owners" "[I", .fieldLink RX6 27 "Witnessworks$Machines" "weights" "[I", .fieldLink RX6 30 "Witnessworks$Machines" "ways" "[I"] : List Cond) ++ ((wsX60) ++ ([])))
theorem huX6_init_6 : ∀ w ∈ u_ws RX6 TX6 8, w ∈ wvX6_init := fun w h => List.mem_cons_of_mem _ (List.mem_append_right _ (List.mem_append_left _ h))
theorem gdX6_init : ∀ w ∈ wvX6_init, wkGd w := wkGdC rfl (wkGdA (wkGdL (by decide +kernel)) (wkGdA gdX6 (fun _ h => absurd h List.not_mem_nil)))
def rX6_init (F : Nat) (k n : Nat) (l0A : Nat) (S : wPS) (Φ : (Unit → wPS → Prop)) : Prop :=
  ¬ (8 : Int32) < 0 ∧ 0 + 1 ≤ k ∧ 0 + ((8 : Int32)).toNatClampNeg ≤ n ∧ ((8 : Int32)).toNatClampNeg * 4 ≤ 536870912 ∧ ∀ q2 : Nat, ¬ q2 ∈ S.L → wkLt (wnI S q2 13 ((8 : Int32)).toNatClampNeg (fun _ => 0)) fun S3 => wkLt (wu_Machines_byZero S3 l0A (some q2)) fun S4 => ¬ (8 : Int32) < 0 ∧ (0 + 1) + 1 ≤ k ∧ (0 + ((8 : Int32)).toNatClampNeg) + ((8 : Int32)).toNatClampNeg ≤ n ∧ ((8 : Int32)).toNatClampNeg * 4 ≤ 536870912 ∧ ∀ q6 : Nat, ¬ q6 ∈ S4.L → wkLt (wnI S4 q6 13 ((8 : Int32)).toNatClampNeg (fun _ => 0)) fun S7 => wkLt (wu_Machines_byOne S7 l0A (some q6)) fun S8 => ¬ (8 : Int32) < 0 ∧ ((0 + 1) + 1) + 1 ≤ k ∧ ((0 + ((8 : Int32)).toNatClampNeg) + ((8 : Int32)).toNatClampNeg) + ((8 : Int32)).toNatClampNeg ≤ n ∧ ((8 : Int32)).toNatClampNeg * 4 ≤ 536870912 ∧ ∀ q10 : Nat, ¬ q10 ∈ S8.L → wkLt (wnI S8 q10 13 ((8 : Int32)).toNatClampNeg (fun _ => 0)) fun S11 => wkLt (wu_Machines_finals S11 l0A (some q10)) fun S12 => ¬ (64 : Int32) < 0 ∧ (((0 + 1) + 1) + 1) + 1 ≤ k ∧ (((0 + ((8 : Int32)).toNatClampNeg) + ((8 : Int32)).toNatClampNeg) + ((8 : Int32)).toNatClampNeg) + ((64 : Int32)).toNatClampNeg ≤ n ∧ ((64 : Int32)).toNatClampNeg * 4 ≤ 536870912 ∧ ∀ q14 : Nat, ¬ q14 ∈ S12.L → wkLt (wnI S12 q14 13 ((64 : Int32)).toNatClampNeg (fun _ => 0)) fun S15 => wkLt (wu_Machines_letters S15 l0A (some q14)) fun S16 => ¬ (8 : Int32) < 0 ∧ ((((0 + 1) + 1) + 1) + 1) + 1 ≤ k ∧ ((((0 + ((8 : Int32)).toNatClampNeg) + ((8 : Int32)).toNatClampNeg) + ((8 : Int32)).toNatClampNeg) + ((64 : Int32)).toNatClampNeg) + ((8 : Int32)).toNatClampNeg ≤ n ∧ ((8 : Int32)).toNatClampNeg * 4 ≤ 536870912 ∧ ∀ q18 : Nat, ¬ q18 ∈ S16.L → wkLt (wnI S16 q18 13 ((8 : Int32)).toNatClampNeg (fun _ => 0)) fun S19 => wkLt (wu_Machines_owners S19 l0A (some q18)) fun S20 => ¬ (8 : Int32) < 0 ∧ (((((0 + 1) + 1) + 1) + 1) + 1) + 1 ≤ k ∧ (((((0 + ((8 : Int32)).toNatClampNeg) + ((8 : Int32)).toNatClampNeg) + ((8 : Int32)).toNatClampNeg) + ((64 : Int32)).toNatClampNeg) + ((8 : Int32)).toNatClampNeg) + ((8 : Int32)).toNatClampNeg ≤ n ∧ ((8 : Int32)).toNatClampNeg * 4 ≤ 536870912 ∧ ∀ q22 : Nat, ¬ q22 ∈ S20.L → wkLt (wnI S20 q22 13 ((8 : Int32)).toNatClampNeg (fun _ => 0)) fun S23 => wkLt (wu_Machines_weights S23 l0A (some q22)) fun S24 => ¬ (8 : Int32) < 0 ∧ ((((((0 + 1) + 1) + 1) + 1) + 1) + 1) + 1 ≤ k ∧ ((((((0 + ((8 : Int32)).toNatClampNeg) + ((8 : Int32)).toNatClampNeg) + ((8 : Int32)).toNatClampNeg) + ((64 : Int32)).toNatClampNeg) + ((8 : Int32)).toNatClampNeg) + ((8 : Int32)).toNatClampNeg) + ((8 : Int32)).toNatClampNeg ≤ n ∧ ((8 : Int32)).toNatClampNeg * 4 ≤ 536870912 ∧ ∀ q26 : Nat, ¬ q26 ∈ S24.L → wkLt (wnI S24 q26 13 ((8 : Int32)).toNatClampNeg (fun _ => 0)) fun S27 => wkLt (wu_Machines_ways S27 l0A (some q26)) fun S28 => Φ () S28
set_option maxHeartbeats 4000000 in
set_option maxRecDepth 100000 in
theorem tX6_init {l : Launch} {g : wkG} {F : Nat} {k n : Nat}  {S : wPS} {l0A : Nat} {Φ : (Unit → wPS → Prop)} (hW : wkTT S) (hl0A : wkIs S l0A 6) (h : rX6_init F k n l0A S Φ) : wkMet l g yX6_init wvX6_init 1 k n [.ref l0A] S (fun v' S'' => ∃ v : Unit, v' = none ∧ Φ v S'' ∧ wkTT S'' ∧ wkExt S S'') := by
  refine wkMet_ofI (ret := none) (plainFor_of_name (by decide)) rfl rfl (Nat.le_of_ble_eq_true rfl) (fun X hg C hR hI0 E => ?_)
  subst hg
  have hE : wkExt S S := wkExt.rf
  have hd : 1 ≤ 1 := Nat.le_refl _
  show wkGo l X 1 0 0 0 S [some (.ref l0A)] []
  unfold rX6_init at h
  refine wk_aload_n C dX6_init_0 rfl rfl ?_
  refine wk_objInit C hR (List.mem_of_getElem? (i := 1) rfl) (List.mem_of_getElem? (i := 2) rfl) (List.mem_of_getElem? (i := 3) rfl) (Nat.le_trans (by decide) hd) (Nat.le_of_ble_eq_true rfl) dX6_init_1 ?_
  refine wk_aload_n C dX6_init_4 rfl rfl ?_
  refine wk_bipush C (v := 8) dX6_init_5 (by decide) ?_
  obtain ⟨h1a, h1b, h1c, h1d, h⟩ := h
  refine wk_newI C hR (List.mem_of_getElem? (i := 4) rfl) h1a h1b h1c h1d dX6_init_7 (fun q2 h1e => ?_)
  obtain ⟨S3, eS3, h⟩ := wkLt_some (h q2 h1e)
  rw [← eS3]
  obtain ⟨hXS3, hIS3⟩ := wkExt_newI eS3 h1e
  have hWS3 : wkTT S3 := trivial
  obtain ⟨S4, eS4, h⟩ := wkLt_some h
  refine wk_putF C hI0 (S' := S4) huX6_init_6 (hXS3 _ _ hl0A).1 (fun cy => wAt_6 cy _ (hXS3 _ _ hl0A).2) rfl 0 (by decide) (List.mem_of_getElem? (i := 5) rfl) rfl tyX6_ok nmX6 rfl rfl (ty := (.array .int)) rfl rfl rfl (by show 0 < 8; decide) (fun cy b => by rw [eS4]; exact wSt_6_0 cy _ (hXS3 _ _ hl0A).2 (some q2) b) (by rw [eS4]) dX6_init_9 ?_
  have hWS4 : wkTT S4 := trivial
  have hXS4 : wkExt S3 S4 := by rw [eS4]; exact wkExt.rf
  refine wk_aload_n C dX6_init_12 rfl rfl ?_
  refine wk_bipush C (v := 8) dX6_init_13 (by decide) ?_
  obtain ⟨h5a, h5b, h5c, h5d, h⟩ := h
  refine wk_newI C hR (List.mem_of_getElem? (i := 4) rfl) h5a h5b h5c h5d dX6_init_15 (fun q6 h5e => ?_)
  obtain ⟨S7, eS7, h⟩ := wkLt_some (h q6 h5e)
  rw [← eS7]
  obtain ⟨hXS7, hIS7⟩ := wkExt_newI eS7 h5e
  have hWS7 : wkTT S7 := trivial
  obtain ⟨S8, eS8, h⟩ := wkLt_some h
  refine wk_putF C hI0 (S' := S8) huX6_init_6 (hXS7 _ _ (hXS4 _ _ (hXS3 _ _ hl0A))).1 (fun cy => wAt_6 cy _ (hXS7 _ _ (hXS4 _ _ (hXS3 _ _ hl0A))).2) rfl 1 (by decide) (List.mem_of_getElem? (i := 6) rfl) rfl tyX6_ok nmX6 rfl rfl (ty := (.array .int)) rfl rfl rfl (by show 1 < 8; decide) (fun cy b => by rw [eS8]; exact wSt_6_1 cy _ (hXS7 _ _ (hXS4 _ _ (hXS3 _ _ hl0A))).2 (some q6) b) (by rw [eS8]) dX6_init_17 ?_
  have hWS8 : wkTT S8 := trivial
  have hXS8 : wkExt S7 S8 := by rw [eS8]; exact wkExt.rf
  refine wk_aload_n C dX6_init_20 rfl rfl ?_
  refine wk_bipush C (v := 8) dX6_init_21 (by decide) ?_
  obtain ⟨h9a, h9b, h9c, h9d, h⟩ := h
  refine wk_newI C hR (List.mem_of_getElem? (i := 4) rfl) h9a h9b h9c h9d dX6_init_23 (fun q10 h9e => ?_)
  obtain ⟨S11, eS11, h⟩ := wkLt_some (h q10 h9e)
  rw [← eS11]
  obtain ⟨hXS11, hIS11⟩ := wkExt_newI eS11 h9e
  have hWS11 : wkTT S11 := trivial
  obtain ⟨S12, eS12, h⟩ := wkLt_some h
  refine wk_putF C hI0 (S' := S12) huX6_init_6 (hXS11 _ _ (hXS8 _ _ (hXS7 _ _ (hXS4 _ _ (hXS3 _ _ hl0A))))).1 (fun cy => wAt_6 cy _ (hXS11 _ _ (hXS8 _ _ (hXS7 _ _ (hXS4 _ _ (hXS3 _ _ hl0A))))).2) rfl 2 (by decide) (List.mem_of_getElem? (i := 7) rfl) rfl tyX6_ok nmX6 rfl rfl (ty := (.array .int)) rfl rfl rfl (by show 2 < 8; decide) (fun cy b => by rw [eS12]; exact wSt_6_2 cy _ (hXS11 _ _ (hXS8 _ _ (hXS7 _ _ (hXS4 _ _ (hXS3 _ _ hl0A))))).2 (some q10) b) (by rw [eS12]) dX6_init_25 ?_
  have hWS12 : wkTT S12 := trivial
  have hXS12 : wkExt S11 S12 := by rw [eS12]; exact wkExt.rf
  refine wk_aload_n C dX6_init_28 rfl rfl ?_
  refine wk_bipush C (v := 64) dX6_init_29 (by decide) ?_
  obtain ⟨h13a, h13b, h13c, h13d, h⟩ := h
  refine wk_newI C hR (List.mem_of_getElem? (i := 4) rfl) h13a h13b h13c h13d dX6_init_31 (fun q14 h13e => ?_)
  obtain ⟨S15, eS15, h⟩ := wkLt_some (h q14 h13e)
  rw [← eS15]
  obtain ⟨hXS15, hIS15⟩ := wkExt_newI eS15 h13e
  have hWS15 : wkTT S15 := trivial
  obtain ⟨S16, eS16, h⟩ := wkLt_some h
  refine wk_putF C hI0 (S' := S16) huX6_init_6 (hXS15 _ _ (hXS12 _ _ (hXS11 _ _ (hXS8 _ _ (hXS7 _ _ (hXS4 _ _ (hXS3 _ _ hl0A))))))).1 (fun cy => wAt_6 cy _ (hXS15 _ _ (hXS12 _ _ (hXS11 _ _ (hXS8 _ _ (hXS7 _ _ (hXS4 _ _ (hXS3 _ _ hl0A))))))).2) rfl 3 (by decide) (List.mem_of_getElem? (i := 8) rfl) rfl tyX6_ok nmX6 rfl rfl (ty := (.array .int)) rfl rfl rfl (by show 3 < 8; decide) (fun cy b => by rw [eS16]; exact wSt_6_3 cy _ (hXS15 _ _ (hXS12 _ _ (hXS11 _ _ (hXS8 _ _ (hXS7 _ _ (hXS4 _ _ (hXS3 _ _ hl0A))))))).2 (some q14) b) (by rw [eS16]) dX6_init_33 ?_
  have hWS16 : wkTT S16 := trivial
  have hXS16 : wkExt S15 S16 := by rw [eS16]; exact wkExt.rf
  refine wk_aload_n C dX6_init_36 rfl rfl ?_
  refine wk_bipush C (v := 8) dX6_init_37 (by decide) ?_
  obtain ⟨h17a, h17b, h17c, h17d, h⟩ := h
  refine wk_newI C hR (List.mem_of_getElem? (i := 4) rfl) h17a h17b h17c h17d dX6_init_39 (fun q18 h17e => ?_)
  obtain ⟨S19, eS19, h⟩ := wkLt_some (h q18 h17e)
  rw [← eS19]
  obtain ⟨hXS19, hIS19⟩ := wkExt_newI eS19 h17e
  have hWS19 : wkTT S19 := trivial
  obtain ⟨S20, eS20, h⟩ := wkLt_some h
  refine wk_putF C hI0 (S' := S20) huX6_init_6 (hXS19 _ _ (hXS16 _ _ (hXS15 _ _ (hXS12 _ _ (hXS11 _ _ (hXS8 _ _ (hXS7 _ _ (hXS4 _ _ (hXS3 _ _ hl0A))))))))).1 (fun cy => wAt_6 cy _ (hXS19 _ _ (hXS16 _ _ (hXS15 _ _ (hXS12 _ _ (hXS11 _ _ (hXS8 _ _ (hXS7 _ _ (hXS4 _ _ (hXS3 _ _ hl0A))))))))).2) rfl 4 (by decide) (List.mem_of_getElem? (i := 9) rfl) rfl tyX6_ok nmX6 rfl rfl (ty := (.array .int)) rfl rfl rfl (by show 4 < 8; decide) (fun cy b => by rw [eS20]; exact wSt_6_4 cy _ (hXS19 _ _ (hXS16 _ _ (hXS15 _ _ (hXS12 _ _ (hXS11 _ _ (hXS8 _ _ (hXS7 _ _ (hXS4 _ _ (hXS3 _ _ hl0A))))))))).2 (some q18) b) (by rw [eS20]) dX6_init_41 ?_
  have hWS20 : wkTT S20 := trivial
  have hXS20 : wkExt S19 S20 := by rw [eS20]; exact wkExt.rf
  refine wk_aload_n C dX6_init_44 rfl rfl ?_
  refine wk_bipush C (v := 8) dX6_init_45 (by decide) ?_
  obtain ⟨h21a, h21b, h21c, h21d, h⟩ := h
  refine wk_newI C hR (List.mem_of_getElem? (i := 4) rfl) h21a h21b h21c h21d dX6_init_47 (fun q22 h21e => ?_)
  obtain ⟨S23, eS23, h⟩ := wkLt_some (h q22 h21e)
  rw [← eS23]
  obtain ⟨hXS23, hIS23⟩ := wkExt_newI eS23 h21e
  have hWS23 : wkTT S23 := trivial
  obtain ⟨S24, eS24, h⟩ := wkLt_some h
  refine wk_putF C hI0 (S' := S24) huX6_init_6 (hXS23 _ _ (hXS20 _ _ (hXS19 _ _ (hXS16 _ _ (hXS15 _ _ (hXS12 _ _ (hXS11 _ _ (hXS8 _ _ (hXS7 _ _ (hXS4 _ _ (hXS3 _ _ hl0A))))))))))).1 (fun cy => wAt_6 cy _ (hXS23 _ _ (hXS20 _ _ (hXS19 _ _ (hXS16 _ _ (hXS15 _ _ (hXS12 _ _ (hXS11 _ _ (hXS8 _ _ (hXS7 _ _ (hXS4 _ _ (hXS3 _ _ hl0A))))))))))).2) rfl 5 (by decide) (List.mem_of_getElem? (i := 10) rfl) rfl tyX6_ok nmX6 rfl rfl (ty := (.array .int)) rfl rfl rfl (by show 5 < 8; decide) (fun cy b => by rw [eS24]; exact wSt_6_5 cy _ (hXS23 _ _ (hXS20 _ _ (hXS19 _ _ (hXS16 _ _ (hXS15 _ _ (hXS12 _ _ (hXS11 _ _ (hXS8 _ _ (hXS7 _ _ (hXS4 _ _ (hXS3 _ _ hl0A))))))))))).2 (some q22) b) (by rw [eS24]) dX6_init_49 ?_
  have hWS24 : wkTT S24 := trivial
  have hXS24 : wkExt S23 S24 := by rw [eS24]; exact wkExt.rf
  refine wk_aload_n C dX6_init_52 rfl rfl ?_
  refine wk_bipush C (v := 8) dX6_init_53 (by decide) ?_
  obtain ⟨h25a, h25b, h25c, h25d, h⟩ := h
  refine wk_newI C hR (List.mem_of_getElem? (i := 4) rfl) h25a h25b h25c h25d dX6_init_55 (fun q26 h25e => ?_)
  obtain ⟨S27, eS27, h⟩ := wkLt_some (h q26 h25e)
  rw [← eS27]
  obtain ⟨hXS27, hIS27⟩ := wkExt_newI eS27 h25e
  have hWS27 : wkTT S27 := trivial
  obtain ⟨S28, eS28, h⟩ := wkLt_some h
  refine wk_putF C hI0 (S' := S28) huX6_init_6 (hXS27 _ _ (hXS24 _ _ (hXS23 _ _ (hXS20 _ _ (hXS19 _ _ (hXS16 _ _ (hXS15 _ _ (hXS12 _ _ (hXS11 _ _ (hXS8 _ _ (hXS7 _ _ (hXS4 _ _ (hXS3 _ _ hl0A))))))))))))).1 (fun cy => wAt_6 cy _ (hXS27 _ _ (hXS24 _ _ (hXS23 _ _ (hXS20 _ _ (hXS19 _ _ (hXS16 _ _ (hXS15 _ _ (hXS12 _ _ (hXS11 _ _ (hXS8 _ _ (hXS7 _ _ (hXS4 _ _ (hXS3 _ _ hl0A))))))))))))).2) rfl 6 (by decide) (List.mem_of_getElem? (i := 11) rfl) rfl tyX6_ok nmX6 rfl rfl (ty := (.array .int)) rfl rfl rfl (by show 6 < 8; decide) (fun cy b => by rw [eS28]; exact wSt_6_6 cy _ (hXS27 _ _ (hXS24 _ _ (hXS23 _ _ (hXS20 _ _ (hXS19 _ _ (hXS16 _ _ (hXS15 _ _ (hXS12 _ _ (hXS11 _ _ (hXS8 _ _ (hXS7 _ _ (hXS4 _ _ (hXS3 _ _ hl0A))))))))))))).2 (some q26) b) (by rw [eS28]) dX6_init_57 ?_
  have hWS28 : wkTT S28 := trivial
  have hXS28 : wkExt S27 S28 := by rw [eS28]; exact wkExt.rf
  exact E _ _ _ _ _ h25b h25c dX6_init_60 ⟨(), rfl, h, hWS28, (wkExt.tr (wkExt.tr (wkExt.tr (wkExt.tr (wkExt.tr (wkExt.tr (wkExt.tr (wkExt.tr (wkExt.tr (wkExt.tr (wkExt.tr (wkExt.tr (wkExt.tr (wkExt.tr hE hXS3) hXS4) hXS7) hXS8) hXS11) hXS12) hXS15) hXS16) hXS19) hXS20) hXS23) hXS24) hXS27) hXS28)⟩
def wvX6_loadStates : List Cond := .code yX6_loadStates cX6_loadStates 4 none :: (([.fieldLink RX6 43 "Witnessworks$Machines" "size" "I", .fieldLink RX6 74 "Witnessworks$Entry" "itemCount" "I", .fieldLink RX6 11 "Witnessworks$Machines" "byZero" "[I", .methodLink RX6 77 yX3_at, .instanceMethod yX3_at, .selects RX3 yX3_at yX3_at, .initialized RX3, .fieldLink RX6 15 "Witnessworks$Machines" "byOne" "[I", .fieldLink RX6 18 "Witnessworks$Machines" "finals" "[I", .fieldLink RX6 73 "Witnessworks$Entry" "size" "I"] : List Cond) ++ ((wsX60 ++ (wsX30)) ++ (wvX3_at)))
theorem huX6_loadStates_6 : ∀ w ∈ u_ws RX6 TX6 8, w ∈ wvX6_loadStates := fun w h => List.mem_cons_of_mem _ (List.mem_append_right _ (List.mem_append_left _ (List.mem_append_left _ h)))
theorem huX6_loadStates_3 : ∀ w ∈ u_ws RX3 TX3 17, w ∈ wvX6_loadStates := fun w h => List.mem_cons_of_mem _ (List.mem_append_right _ (List.mem_append_left _ (List.mem_append_right _ h)))
theorem hbX6_loadStates_X3_at : ∀ w ∈ wvX3_at, w ∈ wvX6_loadStates := fun w h => List.mem_cons_of_mem _ (List.mem_append_right _ (List.mem_append_right _ h))
theorem gdX6_loadStates : ∀ w ∈ wvX6_loadStates, wkGd w := wkGdC rfl (wkGdA (wkGdL (by decide +kernel)) (wkGdA (wkGdA gdX6 gdX3) gdX3_at))
def rX6_loadStates_b0 (F : Nat) (rec : Nat → Nat → Nat → Int32 → Int32 → Nat → Int32 → Int32 → wPS → (Unit → wPS → Prop) → Prop) (l0A : Nat) (l1A : Nat) (l2I : Int32) (S : wPS) (Φ : (Unit → wPS → Prop)) : Prop :=
  if (gMachines_size S l0A) ≤ l2I then (Φ () S) else (if (gEntry_itemCount S l1A) ≤ l2I then (rec 1 l0A l1A l2I (0 : Int32) (wkAd (gMachines_byZero S l0A)) l2I l2I S Φ) else (rX3_at F l1A l2I (0 : Int32) S fun v3 S4 => rec 1 l0A l1A l2I (1 : Int32) (wkAd (gMachines_byZero S l0A)) l2I v3 S4 Φ))
def rX6_loadStates_b1 (F : Nat) (rec : Nat → Nat → Nat → Int32 → Int32 → Nat → Int32 → Int32 → wPS → (Unit → wPS → Prop) → Prop) (l0A : Nat) (l1A : Nat) (l2I : Int32) (l3I : Int32) (s0A : Nat) (s1I : Int32) (s2I : Int32) (S : wPS) (Φ : (Unit → wPS → Prop)) : Prop :=
  ¬ (s1I < 0 ∨ S.len s0A ≤ (s1I).toNatClampNeg) ∧ wkLt (wuI S s0A s1I s2I) fun S9 => if l3I = 0 then (¬ (l2I < 0 ∨ S9.len (wkAd (gMachines_byOne S9 l0A)) ≤ (l2I).toNatClampNeg) ∧ wkLt (wuI S9 (wkAd (gMachines_byOne S9 l0A)) l2I l2I) fun S12 => if l3I = 0 then (¬ (l2I < 0 ∨ S12.len (wkAd (gMachines_finals S12 l0A)) ≤ (l2I).toNatClampNeg) ∧ wkLt (wuI S12 (wkAd (gMachines_finals S12 l0A)) l2I (0 : Int32)) fun S15 => wkLt (l2I + (1 : Int32)) fun x16 => rec 0 l0A l1A x16 0 0 0 0 S15 Φ) else (rX3_at F l1A l2I (2 : Int32) S12 fun v17 S18 => ¬ (l2I < 0 ∨ S18.len (wkAd (gMachines_finals S12 l0A)) ≤ (l2I).toNatClampNeg) ∧ wkLt (wuI S18 (wkAd (gMachines_finals S12 l0A)) l2I v17) fun S23 => wkLt (l2I + (1 : Int32)) fun x24 => rec 0 l0A l1A x24 0 0 0 0 S23 Φ)) else (rX3_at F l1A l2I (1 : Int32) S9 fun v25 S26 => ¬ (l2I < 0 ∨ S26.len (wkAd (gMachines_byOne S9 l0A)) ≤ (l2I).toNatClampNeg) ∧ wkLt (wuI S26 (wkAd (gMachines_byOne S9 l0A)) l2I v25) fun S31 => if l3I = 0 then (¬ (l2I < 0 ∨ S31.len (wkAd (gMachines_finals S31 l0A)) ≤ (l2I).toNatClampNeg) ∧ wkLt (wuI S31 (wkAd (gMachines_finals S31 l0A)) l2I (0 : Int32)) fun S34 => wkLt (l2I + (1 : Int32)) fun x35 => rec 0 l0A l1A x35 0 0 0 0 S34 Φ) else (rX3_at F l1A l2I (2 : Int32) S31 fun v36 S37 => ¬ (l2I < 0 ∨ S37.len (wkAd (gMachines_finals S31 l0A)) ≤ (l2I).toNatClampNeg) ∧ wkLt (wuI S37 (wkAd (gMachines_finals S31 l0A)) l2I v36) fun S42 => wkLt (l2I + (1 : Int32)) fun x43 => rec 0 l0A l1A x43 0 0 0 0 S42 Φ))
def rX6_loadStates_go (F : Nat) : Nat → Nat → Nat → Nat → Int32 → Int32 → Nat → Int32 → Int32 → wPS → (Unit → wPS → Prop) → Prop
  | 0, _, _, _, _, _, _, _, _, _, _ => False
  | k' + 1, lab, l0A, l1A, l2I, l3I, s0A, s1I, s2I, S, Φ => if lab = 0 then rX6_loadStates_b0 F (rX6_loadStates_go F k') l0A l1A l2I S Φ else if lab = 1 then rX6_loadStates_b1 F (rX6_loadStates_go F k') l0A l1A l2I l3I s0A s1I s2I S Φ else False
def rX6_loadStates_s (F : Nat) (rec : Nat → Nat → Nat → Int32 → Int32 → Nat → Int32 → Int32 → wPS → (Unit → wPS → Prop) → Prop) (l0A : Nat) (l1A : Nat) (S : wPS) (Φ : (Unit → wPS → Prop)) : Prop :=
  wkLt (wu_Machines_size S l0A (gEntry_size S l1A)) fun S44 => rec 0 l0A l1A (0 : Int32) 0 0 0 0 S44 Φ
def rX6_loadStates (F : Nat) (l0A : Nat) (l1A : Nat) (S : wPS) (Φ : (Unit → wPS → Prop)) : Prop := rX6_loadStates_s F (rX6_loadStates_go F F) l0A l1A S Φ
set_option maxHeartbeats 4000000 in
set_option maxRecDepth 100000 in
theorem tX6_loadStates_go {l : Launch} {X : wkX} {d F : Nat} {S0 : wPS} {Φ : (Unit → wPS → Prop)} (C : wkC X cX6_loadStates RX6 4 wvX6_loadStates) (hR : wkRm X d 0 0) (hd : 1 ≤ d) (E : wkEnd l X cX6_loadStates 4 none 0 0 (fun v' S'' => ∃ v : Unit, v' = none ∧ Φ v S'' ∧ wkWF S'' ∧ wkExt S0 S'')) : ∀ k' : Nat, (∀ (l0A : Nat) (l1A : Nat) (l2I : Int32) (S : wPS), wkWF S → wkExt S0 S → wkIs S l0A 6 → wkIs S l1A 3 → rX6_loadStates_go F k' 0 l0A l1A l2I 0 0 0 0 S Φ → wkGo l X 4 0 0 10 S [some (.ref l0A), some (.ref l1A), some (.int l2I), none] []) ∧ (∀ (l0A : Nat) (l1A : Nat) (l2I : Int32) (l3I : Int32) (s0A : Nat) (s1I : Int32) (s2I : Int32) (S : wPS), wkWF S → wkExt S0 S → wkIs S l0A 6 → wkIs S l1A 3 → wkIs S s0A 13 → rX6_loadStates_go F k' 1 l0A l1A l2I l3I s0A s1I s2I S Φ → wkGo l X 4 0 0 51 S [some (.ref l0A), some (.ref l1A), some (.int l2I), some (.int l3I)] [.int s2I, .int s1I, .ref s0A]) := by
  intro k'
  induction k' with
  | zero => exact ⟨fun l0A l1A l2I S hW hE hl0A hl1A h => h.elim, fun l0A l1A l2I l3I s0A s1I s2I S hW hE hl0A hl1A hs0A h => h.elim⟩
  | succ k' ih =>
    refine ⟨?_, ?_⟩
    · intro l0A l1A l2I S hW hE hl0A hl1A h
      have h : rX6_loadStates_b0 F (rX6_loadStates_go F k') l0A l1A l2I S Φ := by
        rw [rX6_loadStates_go, if_pos (rfl : (0 : Nat) = 0)] at h
        exact h
      unfold rX6_loadStates_b0 at h
      refine wk_iload_n C dX6_loadStates_10 rfl rfl ?_
      refine wk_aload_n C dX6_loadStates_11 rfl rfl ?_
      refine wk_get C (v := .int (gMachines_size S l0A)) huX6_loadStates_6 hl0A.1 (fun cy => wAt_6 cy _ hl0A.2) rfl 7 (by decide) (List.mem_of_getElem? (i := 1) rfl) rfl rfl dX6_loadStates_12 ?_
      refine wk_icmp_ge C (tgt := 98) dX6_loadStates_15 (by decide) (fun c1 => ?_) (fun c1 => ?_)
      · rw [if_pos c1] at h
        exact E _ _ _ _ _ (Nat.le_refl 0) (Nat.le_refl 0) dX6_loadStates_98 ⟨(), rfl, h, hW, hE⟩
      · rw [if_neg c1] at h
        refine wk_iload_n C dX6_loadStates_18 rfl rfl ?_
        refine wk_aload_n C dX6_loadStates_19 rfl rfl ?_
        refine wk_get C (v := .int (gEntry_itemCount S l1A)) huX6_loadStates_3 hl1A.1 (fun cy => wAt_3 cy _ hl1A.2) rfl 6 (by decide) (List.mem_of_getElem? (i := 2) rfl) rfl rfl dX6_loadStates_20 ?_
        refine wk_icmp_ge C (tgt := 30) dX6_loadStates_23 (by decide) (fun c2 => ?_) (fun c2 => ?_)
        · rw [if_pos c2] at h
          refine wk_iconst C (v := 0) dX6_loadStates_30 (by decide) ?_
          refine wk_istore_n C (lv' := [some (.ref l0A), some (.ref l1A), some (.int l2I), some (.int (0 : Int32))]) dX6_loadStates_31 rfl (by decide) rfl ?_
          refine wk_aload_n C dX6_loadStates_32 rfl rfl ?_
          refine wk_get C huX6_loadStates_6 hl0A.1 (fun cy => wAt_6 cy _ hl0A.2) rfl 0 (by decide) (List.mem_of_getElem? (i := 3) rfl) rfl (congrArg some (congrArg va_rf (wf_Machines_byZero hW hl0A).1)) dX6_loadStates_33 ?_
          refine wk_iload_n C dX6_loadStates_36 rfl rfl ?_
          refine wk_iload_n C dX6_loadStates_37 rfl rfl ?_
          refine wk_if_eq C (tgt := 50) dX6_loadStates_38 (by decide) (fun _ => ?_) (fun c => False.elim (by revert c; decide))
          refine wk_iload_n C dX6_loadStates_50 rfl rfl ?_
          exact wk_forget (lv' := [some (.ref l0A), some (.ref l1A), some (.int l2I), some (.int (0 : Int32))]) (wkLs.le ⟨rfl, rfl, rfl, rfl, trivial⟩) (ih.2 _ _ _ _ _ _ _ _ hW hE hl0A hl1A (wf_Machines_byZero hW hl0A).2 h)
        · rw [if_neg c2] at h
          refine wk_iconst C (v := 1) dX6_loadStates_26 (by decide) ?_
          refine wk_goto C (tgt := 31) dX6_loadStates_27 (by decide) ?_
          refine wk_istore_n C (lv' := [some (.ref l0A), some (.ref l1A), some (.int l2I), some (.int (1 : Int32))]) dX6_loadStates_31 rfl (by decide) rfl ?_
          refine wk_aload_n C dX6_loadStates_32 rfl rfl ?_
          refine wk_get C huX6_loadStates_6 hl0A.1 (fun cy => wAt_6 cy _ hl0A.2) rfl 0 (by decide) (List.mem_of_getElem? (i := 3) rfl) rfl (congrArg some (congrArg va_rf (wf_Machines_byZero hW hl0A).1)) dX6_loadStates_33 ?_
          refine wk_iload_n C dX6_loadStates_36 rfl rfl ?_
          refine wk_iload_n C dX6_loadStates_37 rfl rfl ?_
          refine wk_if_eq C (tgt := 50) dX6_loadStates_38 (by decide) (fun c => False.elim (by revert c; decide)) (fun _ => ?_)
          refine wk_aload_n C dX6_loadStates_41 rfl rfl ?_
          refine wk_iload_n C dX6_loadStates_42 rfl rfl ?_
          refine wk_iconst C (v := 0) dX6_loadStates_43 (by decide) ?_
          refine wk_callV C hR (As := [.int l2I, .int (0 : Int32)]) (cnt := 2) (tX3_at (l := l) hW hl1A h) rfl (wkGoodV (List.mem_of_getElem? (i := 4) rfl) (List.mem_of_getElem? (i := 5) rfl) (List.mem_of_getElem? (i := 6) rfl) (List.mem_of_getElem? (i := 7) rfl) hbX6_loadStates_X3_at gdX3_at) (Nat.le_trans (by decide : 0 + 1 ≤ 1) hd) (by decide) hl1A.1 (fun cy => wAt_3 cy _ hl1A.2) rfl ⟨by decide, by decide, by decide +kernel⟩ rfl rfl (Nat.le_of_ble_eq_true rfl) (Nat.le_refl 0) (Nat.le_refl 0) dX6_loadStates_44 (fun v' S4 hp => ?_)
          obtain ⟨v3, rfl, h, hWS4, hXS4⟩ := hp
          refine wk_goto C (tgt := 51) dX6_loadStates_47 (by decide) ?_
          exact wk_forget (lv' := [some (.ref l0A), some (.ref l1A), some (.int l2I), some (.int (1 : Int32))]) (wkLs.le ⟨rfl, rfl, rfl, rfl, trivial⟩) (ih.2 _ _ _ _ _ _ _ _ hWS4 (wkExt.tr hE hXS4) (hXS4 _ _ hl0A) (hXS4 _ _ hl1A) (hXS4 _ _ (wf_Machines_byZero hW hl0A).2) h)
    · intro l0A l1A l2I l3I s0A s1I s2I S hW hE hl0A hl1A hs0A h
      have h : rX6_loadStates_b1 F (rX6_loadStates_go F k') l0A l1A l2I l3I s0A s1I s2I S Φ := by
        rw [rX6_loadStates_go, if_neg (show ¬ (1 : Nat) = 0 by decide), if_pos (rfl : (1 : Nat) = 1)] at h
        exact h
      unfold rX6_loadStates_b1 at h
      obtain ⟨i8, h⟩ := h
      obtain ⟨S9, eS9, h⟩ := wkLt_some h
      refine wk_iast C hs0A.1 hs0A.2 i8 eS9.symm dX6_loadStates_51 ?_
      have hWS9 : wkWF S9 := by rw [eS9]; exact hW
      have hXS9 : wkExt S S9 := by rw [eS9]; exact wkExt.rf
      refine wk_aload_n C dX6_loadStates_52 rfl rfl ?_
      refine wk_get C huX6_loadStates_6 (hXS9 _ _ hl0A).1 (fun cy => wAt_6 cy _ (hXS9 _ _ hl0A).2) rfl 1 (by decide) (List.mem_of_getElem? (i := 8) rfl) rfl (congrArg some (congrArg va_rf (wf_Machines_byOne hWS9 (hXS9 _ _ hl0A)).1)) dX6_loadStates_53 ?_
      refine wk_iload_n C dX6_loadStates_56 rfl rfl ?_
      refine wk_iload_n C dX6_loadStates_57 rfl rfl ?_
      refine wk_if_eq C (tgt := 70) dX6_loadStates_58 (by decide) (fun c10 => ?_) (fun c10 => ?_)
      · rw [if_pos c10] at h
        refine wk_iload_n C dX6_loadStates_70 rfl rfl ?_
        obtain ⟨i11, h⟩ := h
        obtain ⟨S12, eS12, h⟩ := wkLt_some h
        refine wk_iast C (wf_Machines_byOne hWS9 (hXS9 _ _ hl0A)).2.1 (wf_Machines_byOne hWS9 (hXS9 _ _ hl0A)).2.2 i11 eS12.symm dX6_loadStates_71 ?_
        have hWS12 : wkWF S12 := by rw [eS12]; exact hWS9
        have hXS12 : wkExt S9 S12 := by rw [eS12]; exact wkExt.rf
        refine wk_aload_n C dX6_loadStates_72 rfl rfl ?_
        refine wk_get C huX6_loadStates_6 (hXS12 _ _ (hXS9 _ _ hl0A)).1 (fun cy => wAt_6 cy _ (hXS12 _ _ (hXS9 _ _ hl0A)).2) rfl 2 (by decide) (List.mem_of_getElem? (i := 9) rfl) rfl (congrArg some (congrArg va_rf (wf_Machines_finals hWS12 (hXS12 _ _ (hXS9 _ _ hl0A))).1)) dX6_loadStates_73 ?_
        refine wk_iload_n C dX6_loadStates_76 rfl rfl ?_
        refine wk_iload_n C dX6_loadStates_77 rfl rfl ?_
        refine wk_if_eq C (tgt := 90) dX6_loadStates_78 (by decide) (fun c13 => ?_) (fun c13 => ?_)
        · rw [if_pos c13] at h
          refine wk_iconst C (v := 0) dX6_loadStates_90 (by decide) ?_
          obtain ⟨i14, h⟩ := h
          obtain ⟨S15, eS15, h⟩ := wkLt_some h
          refine wk_iast C (wf_Machines_finals hWS12 (hXS12 _ _ (hXS9 _ _ hl0A))).2.1 (wf_Machines_finals hWS12 (hXS12 _ _ (hXS9 _ _ hl0A))).2.2 i14 eS15.symm dX6_loadStates_91 ?_
          have hWS15 : wkWF S15 := by rw [eS15]; exact hWS12
          have hXS15 : wkExt S12 S15 := by rw [eS15]; exact wkExt.rf
          obtain ⟨x16, ex16, h⟩ := wkLt_some h
          refine wk_iinc C (lv' := [some (.ref l0A), some (.ref l1A), some (.int x16), some (.int l3I)]) dX6_loadStates_92 rfl (by rw [ex16]; rfl) (by decide) rfl ?_
          refine wk_goto C (tgt := 10) dX6_loadStates_95 (by decide) ?_
          exact wk_forget (lv' := [some (.ref l0A), some (.ref l1A), some (.int x16), none]) (wkLs.le ⟨rfl, rfl, rfl, trivial⟩) (ih.1 _ _ _ _ hWS15 (wkExt.tr (wkExt.tr (wkExt.tr hE hXS9) hXS12) hXS15) (hXS15 _ _ (hXS12 _ _ (hXS9 _ _ hl0A))) (hXS15 _ _ (hXS12 _ _ (hXS9 _ _ hl1A))) h)
        · rw [if_neg c13] at h
          refine wk_aload_n C dX6_loadStates_81 rfl rfl ?_
          refine wk_iload_n C dX6_loadStates_82 rfl rfl ?_
          refine wk_iconst C (v := 2) dX6_loadStates_83 (by decide) ?_
          refine wk_callV C hR (As := [.int l2I, .int (2 : Int32)]) (cnt := 2) (tX3_at (l := l) hWS12 (hXS12 _ _ (hXS9 _ _ hl1A)) h) rfl (wkGoodV (List.mem_of_getElem? (i := 4) rfl) (List.mem_of_getElem? (i := 5) rfl) (List.mem_of_getElem? (i := 6) rfl) (List.mem_of_getElem? (i := 7) rfl) hbX6_loadStates_X3_at gdX3_at) (Nat.le_trans (by decide : 0 + 1 ≤ 1) hd) (by decide) (hXS12 _ _ (hXS9 _ _ hl1A)).1 (fun cy => wAt_3 cy _ (hXS12 _ _ (hXS9 _ _ hl1A)).2) rfl ⟨by decide, by decide, by decide +kernel⟩ rfl rfl (Nat.le_of_ble_eq_true rfl) (Nat.le_refl 0) (Nat.le_refl 0) dX6_loadStates_84 (fun v' S18 hp => ?_)
          obtain ⟨v17, rfl, h, hWS18, hXS18⟩ := hp
          refine wk_goto C (tgt := 91) dX6_loadStates_87 (by decide) ?_
          obtain ⟨i22, h⟩ := h
          obtain ⟨S23, eS23, h⟩ := wkLt_some h
          refine wk_iast C (hXS18 _ _ (wf_Machines_finals hWS12 (hXS12 _ _ (hXS9 _ _ hl0A))).2).1 (hXS18 _ _ (wf_Machines_finals hWS12 (hXS12 _ _ (hXS9 _ _ hl0A))).2).2 i22 eS23.symm dX6_loadStates_91 ?_
          have hWS23 : wkWF S23 := by rw [eS23]; exact hWS18
          have hXS23 : wkExt S18 S23 := by rw [eS23]; exact wkExt.rf
          obtain ⟨x24, ex24, h⟩ := wkLt_some h
          refine wk_iinc C (lv' := [some (.ref l0A), some (.ref l1A), some (.int x24), some (.int l3I)]) dX6_loadStates_92 rfl (by rw [ex24]; rfl) (by decide) rfl ?_
          refine wk_goto C (tgt := 10) dX6_loadStates_95 (by decide) ?_
          exact wk_forget (lv' := [some (.ref l0A), some (.ref l1A), some (.int x24), none]) (wkLs.le ⟨rfl, rfl, rfl, trivial⟩) (ih.1 _ _ _ _ hWS23 (wkExt.tr (wkExt.tr (wkExt.tr (wkExt.tr hE hXS9) hXS12) hXS18) hXS23) (hXS23 _ _ (hXS18 _ _ (hXS12 _ _ (hXS9 _ _ hl0A)))) (hXS23 _ _ (hXS18 _ _ (hXS12 _ _ (hXS9 _ _ hl1A)))) h)
      · rw [if_neg c10] at h
        refine wk_aload_n C dX6_loadStates_61 rfl rfl ?_
        refine wk_iload_n C dX6_loadStates_62 rfl rfl ?_
        refine wk_iconst C (v := 1) dX6_loadStates_63 (by decide) ?_
        refine wk_callV C hR (As := [.int l2I, .int (1 : Int32)]) (cnt := 2) (tX3_at (l := l) hWS9 (hXS9 _ _ hl1A) h) rfl (wkGoodV (List.mem_of_getElem? (i := 4) rfl) (List.mem_of_getElem? (i := 5) rfl) (List.mem_of_getElem? (i := 6) rfl) (List.mem_of_getElem? (i := 7) rfl) hbX6_loadStates_X3_at gdX3_at) (Nat.le_trans (by decide : 0 + 1 ≤ 1) hd) (by decide) (hXS9 _ _ hl1A).1 (fun cy => wAt_3 cy _ (hXS9 _ _ hl1A).2) rfl ⟨by decide, by decide, by decide +kernel⟩ rfl rfl (Nat.le_of_ble_eq_true rfl) (Nat.le_refl 0) (Nat.le_refl 0) dX6_loadStates_64 (fun v' S26 hp => ?_)
        obtain ⟨v25, rfl, h, hWS26, hXS26⟩ := hp
        refine wk_goto C (tgt := 71) dX6_loadStates_67 (by decide) ?_
        obtain ⟨i30, h⟩ := h
        obtain ⟨S31, eS31, h⟩ := wkLt_some h
        refine wk_iast C (hXS26 _ _ (wf_Machines_byOne hWS9 (hXS9 _ _ hl0A)).2).1 (hXS26 _ _ (wf_Machines_byOne hWS9 (hXS9 _ _ hl0A)).2).2 i30 eS31.symm dX6_loadStates_71 ?_
        have hWS31 : wkWF S31 := by rw [eS31]; exact hWS26
        have hXS31 : wkExt S26 S31 := by rw [eS31]; exact wkExt.rf
        refine wk_aload_n C dX6_loadStates_72 rfl rfl ?_
        refine wk_get C huX6_loadStates_6 (hXS31 _ _ (hXS26 _ _ (hXS9 _ _ hl0A))).1 (fun cy => wAt_6 cy _ (hXS31 _ _ (hXS26 _ _ (hXS9 _ _ hl0A))).2) rfl 2 (by decide) (List.mem_of_getElem? (i := 9) rfl) rfl (congrArg some (congrArg va_rf (wf_Machines_finals hWS31 (hXS31 _ _ (hXS26 _ _ (hXS9 _ _ hl0A)))).1)) dX6_loadStates_73 ?_
        refine wk_iload_n C dX6_loadStates_76 rfl rfl ?_
        refine wk_iload_n C dX6_loadStates_77 rfl rfl ?_
        refine wk_if_eq C (tgt := 90) dX6_loadStates_78 (by decide) (fun c32 => ?_) (fun c32 => ?_)
        · rw [if_pos c32] at h
          refine wk_iconst C (v := 0) dX6_loadStates_90 (by decide) ?_
          obtain ⟨i33, h⟩ := h
          obtain ⟨S34, eS34, h⟩ := wkLt_some h
          refine wk_iast C (wf_Machines_finals hWS31 (hXS31 _ _ (hXS26 _ _ (hXS9 _ _ hl0A)))).2.1 (wf_Machines_finals hWS31 (hXS31 _ _ (hXS26 _ _ (hXS9 _ _ hl0A)))).2.2 i33 eS34.symm dX6_loadStates_91 ?_
          have hWS34 : wkWF S34 := by rw [eS34]; exact hWS31
          have hXS34 : wkExt S31 S34 := by rw [eS34]; exact wkExt.rf
          obtain ⟨x35, ex35, h⟩ := wkLt_some h
          refine wk_iinc C (lv' := [some (.ref l0A), some (.ref l1A), some (.int x35), some (.int l3I)]) dX6_loadStates_92 rfl (by rw [ex35]; rfl) (by decide) rfl ?_
          refine wk_goto C (tgt := 10) dX6_loadStates_95 (by decide) ?_
          exact wk_forget (lv' := [some (.ref l0A), some (.ref l1A), some (.int x35), none]) (wkLs.le ⟨rfl, rfl, rfl, trivial⟩) (ih.1 _ _ _ _ hWS34 (wkExt.tr (wkExt.tr (wkExt.tr (wkExt.tr hE hXS9) hXS26) hXS31) hXS34) (hXS34 _ _ (hXS31 _ _ (hXS26 _ _ (hXS9 _ _ hl0A)))) (hXS34 _ _ (hXS31 _ _ (hXS26 _ _ (hXS9 _ _ hl1A)))) h)
        · rw [if_neg c32] at h
          refine wk_aload_n C dX6_loadStates_81 rfl rfl ?_
          refine wk_iload_n C dX6_loadStates_82 rfl rfl ?_
          refine wk_iconst C (v := 2) dX6_loadStates_83 (by decide) ?_
          refine wk_callV C hR (As := [.int l2I, .int (2 : Int32)]) (cnt := 2) (tX3_at (l := l) hWS31 (hXS31 _ _ (hXS26 _ _ (hXS9 _ _ hl1A))) h) rfl (wkGoodV (List.mem_of_getElem? (i := 4) rfl) (List.mem_of_getElem? (i := 5) rfl) (List.mem_of_getElem? (i := 6) rfl) (List.mem_of_getElem? (i := 7) rfl) hbX6_loadStates_X3_at gdX3_at) (Nat.le_trans (by decide : 0 + 1 ≤ 1) hd) (by decide) (hXS31 _ _ (hXS26 _ _ (hXS9 _ _ hl1A))).1 (fun cy => wAt_3 cy _ (hXS31 _ _ (hXS26 _ _ (hXS9 _ _ hl1A))).2) rfl ⟨by decide, by decide, by decide +kernel⟩ rfl rfl (Nat.le_of_ble_eq_true rfl) (Nat.le_refl 0) (Nat.le_refl 0) dX6_loadStates_84 (fun v' S37 hp => ?_)
          obtain ⟨v36, rfl, h, hWS37, hXS37⟩ := hp
          refine wk_goto C (tgt := 91) dX6_loadStates_87 (by decide) ?_
          obtain ⟨i41, h⟩ := h
          obtain ⟨S42, eS42, h⟩ := wkLt_some h
          refine wk_iast C (hXS37 _ _ (wf_Machines_finals hWS31 (hXS31 _ _ (hXS26 _ _ (hXS9 _ _ hl0A)))).2).1 (hXS37 _ _ (wf_Machines_finals hWS31 (hXS31 _ _ (hXS26 _ _ (hXS9 _ _ hl0A)))).2).2 i41 eS42.symm dX6_loadStates_91 ?_
          have hWS42 : wkWF S42 := by rw [eS42]; exact hWS37
          have hXS42 : wkExt S37 S42 := by rw [eS42]; exact wkExt.rf
          obtain ⟨x43, ex43, h⟩ := wkLt_some h
          refine wk_iinc C (lv' := [some (.ref l0A), some (.ref l1A), some (.int x43), some (.int l3I)]) dX6_loadStates_92 rfl (by rw [ex43]; rfl) (by decide) rfl ?_
          refine wk_goto C (tgt := 10) dX6_loadStates_95 (by decide) ?_
          exact wk_forget (lv' := [some (.ref l0A), some (.ref l1A), some (.int x43), none]) (wkLs.le ⟨rfl, rfl, rfl, trivial⟩) (ih.1 _ _ _ _ hWS42 (wkExt.tr (wkExt.tr (wkExt.tr (wkExt.tr (wkExt.tr hE hXS9) hXS26) hXS31) hXS37) hXS42) (hXS42 _ _ (hXS37 _ _ (hXS31 _ _ (hXS26 _ _ (hXS9 _ _ hl0A))))) (hXS42 _ _ (hXS37 _ _ (hXS31 _ _ (hXS26 _ _ (hXS9 _ _ hl1A))))) h)
set_option maxHeartbeats 4000000 in
set_option maxRecDepth 100000 in
theorem tX6_loadStates {l : Launch} {g : wkG} {F : Nat}  {S : wPS} {l0A : Nat} {l1A : Nat} {Φ : (Unit → wPS → Prop)} (hW : wkWF S) (hl0A : wkIs S l0A 6) (hl1A : wkIs S l1A 3) (h : rX6_loadStates F l0A l1A S Φ) : wkMet l g yX6_loadStates wvX6_loadStates 1 0 0 [.ref l0A, .ref l1A] S (fun v' S'' => ∃ v : Unit, v' = none ∧ Φ v S'' ∧ wkWF S'' ∧ wkExt S S'') := by
  refine wkMet_of (ret := none) (by decide) rfl (Nat.le_of_ble_eq_true rfl) (fun X hg C hR E => ?_)
  subst hg
  have hE : wkExt S S := wkExt.rf
  have hd : 1 ≤ 1 := Nat.le_refl _
  show wkGo l X 4 0 0 0 S [some (.ref l0A), some (.ref l1A), none, none] []
  have ih := tX6_loadStates_go (F := F) C hR hd E F
  have h : rX6_loadStates_s F (rX6_loadStates_go F F) l0A l1A S Φ := h
  unfold rX6_loadStates_s at h
  refine wk_aload_n C dX6_loadStates_0 rfl rfl ?_
  refine wk_aload_n C dX6_loadStates_1 rfl rfl ?_
  refine wk_get C (v := .int (gEntry_size S l1A)) huX6_loadStates_3 hl1A.1 (fun cy => wAt_3 cy _ hl1A.2) rfl 1 (by decide) (List.mem_of_getElem? (i := 10) rfl) rfl rfl dX6_loadStates_2 ?_
  obtain ⟨S44, eS44, h⟩ := wkLt_some h
  refine wk_put C (S' := S44) huX6_loadStates_6 hl0A.1 (fun cy => wAt_6 cy _ hl0A.2) rfl 7 (by decide) (List.mem_of_getElem? (i := 1) rfl) rfl tyX6_ok nmX6 rfl (ty := .int) rfl rfl rfl (by show 7 < 8; decide) (fun cy b => by rw [eS44]; exact wSt_6_7 cy _ hl0A.2 _ b) (by rw [eS44]) dX6_loadStates_5 ?_
  have hWS44 : wkWF S44 := by rw [eS44]; exact hW
  have hXS44 : wkExt S S44 := by rw [eS44]; exact wkExt.rf
  refine wk_iconst C (v := 0) dX6_loadStates_8 (by decide) ?_
  refine wk_istore_n C (lv' := [some (.ref l0A), some (.ref l1A), some (.int (0 : Int32)), none]) dX6_loadStates_9 rfl (by decide) rfl ?_
  exact wk_forget (lv' := [some (.ref l0A), some (.ref l1A), some (.int (0 : Int32)), none]) (wkLs.le ⟨rfl, rfl, rfl, trivial⟩) (ih.1 _ _ _ _ hWS44 (wkExt.tr hE hXS44) (hXS44 _ _ hl0A) (hXS44 _ _ hl1A) h)
