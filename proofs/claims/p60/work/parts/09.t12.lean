def wvX7_init : List Cond := .code yX7_init cX7_init 1 none :: (([.methodLink RX7 3 objectInit, .instanceMethod objectInit, .code objectInit ⟨#[0xb1]⟩ 1 none, .arrayClass .int, .fieldLink RX7 9 "Witnessworks$Networks" "near" "[I", .fieldLink RX7 15 "Witnessworks$Networks" "best" "[I", .fieldLink RX7 18 "Witnessworks$Networks" "from" "[I", .fieldLink RX7 21 "Witnessworks$Networks" "to" "[I", .fieldLink RX7 24 "Witnessworks$Networks" "caps" "[I", .fieldLink RX7 27 "Witnessworks$Networks" "flow" "[I", .fieldLink RX7 30 "Witnessworks$Networks" "via" "[I", .fieldLink RX7 33 "Witnessworks$Networks" "excess" "[I"] : List Cond) ++ ((wsX70) ++ ([])))
theorem huX7_init_7 : ∀ w ∈ u_ws RX7 TX7 11, w ∈ wvX7_init := fun w h => List.mem_cons_of_mem _ (List.mem_append_right _ (List.mem_append_left _ h))
theorem gdX7_init : ∀ w ∈ wvX7_init, wkGd w := wkGdC rfl (wkGdA (wkGdL (by decide +kernel)) (wkGdA gdX7 (fun _ h => absurd h List.not_mem_nil)))
def rX7_init (F : Nat) (k n : Nat) (l0A : Nat) (S : wPS) (Φ : (Unit → wPS → Prop)) : Prop :=
  ¬ (9 : Int32) < 0 ∧ 0 + 1 ≤ k ∧ 0 + ((9 : Int32)).toNatClampNeg ≤ n ∧ ((9 : Int32)).toNatClampNeg * 4 ≤ 536870912 ∧ ∀ q2 : Nat, ¬ q2 ∈ S.L → wkLt (wnI S q2 13 ((9 : Int32)).toNatClampNeg (fun _ => 0)) fun S3 => wkLt (wu_Networks_near S3 l0A (some q2)) fun S4 => ¬ (512 : Int32) < 0 ∧ (0 + 1) + 1 ≤ k ∧ (0 + ((9 : Int32)).toNatClampNeg) + ((512 : Int32)).toNatClampNeg ≤ n ∧ ((512 : Int32)).toNatClampNeg * 4 ≤ 536870912 ∧ ∀ q6 : Nat, ¬ q6 ∈ S4.L → wkLt (wnI S4 q6 13 ((512 : Int32)).toNatClampNeg (fun _ => 0)) fun S7 => wkLt (wu_Networks_best S7 l0A (some q6)) fun S8 => ¬ (10 : Int32) < 0 ∧ ((0 + 1) + 1) + 1 ≤ k ∧ ((0 + ((9 : Int32)).toNatClampNeg) + ((512 : Int32)).toNatClampNeg) + ((10 : Int32)).toNatClampNeg ≤ n ∧ ((10 : Int32)).toNatClampNeg * 4 ≤ 536870912 ∧ ∀ q10 : Nat, ¬ q10 ∈ S8.L → wkLt (wnI S8 q10 13 ((10 : Int32)).toNatClampNeg (fun _ => 0)) fun S11 => wkLt (wu_Networks_from S11 l0A (some q10)) fun S12 => ¬ (10 : Int32) < 0 ∧ (((0 + 1) + 1) + 1) + 1 ≤ k ∧ (((0 + ((9 : Int32)).toNatClampNeg) + ((512 : Int32)).toNatClampNeg) + ((10 : Int32)).toNatClampNeg) + ((10 : Int32)).toNatClampNeg ≤ n ∧ ((10 : Int32)).toNatClampNeg * 4 ≤ 536870912 ∧ ∀ q14 : Nat, ¬ q14 ∈ S12.L → wkLt (wnI S12 q14 13 ((10 : Int32)).toNatClampNeg (fun _ => 0)) fun S15 => wkLt (wu_Networks_to S15 l0A (some q14)) fun S16 => ¬ (10 : Int32) < 0 ∧ ((((0 + 1) + 1) + 1) + 1) + 1 ≤ k ∧ ((((0 + ((9 : Int32)).toNatClampNeg) + ((512 : Int32)).toNatClampNeg) + ((10 : Int32)).toNatClampNeg) + ((10 : Int32)).toNatClampNeg) + ((10 : Int32)).toNatClampNeg ≤ n ∧ ((10 : Int32)).toNatClampNeg * 4 ≤ 536870912 ∧ ∀ q18 : Nat, ¬ q18 ∈ S16.L → wkLt (wnI S16 q18 13 ((10 : Int32)).toNatClampNeg (fun _ => 0)) fun S19 => wkLt (wu_Networks_caps S19 l0A (some q18)) fun S20 => ¬ (10 : Int32) < 0 ∧ (((((0 + 1) + 1) + 1) + 1) + 1) + 1 ≤ k ∧ (((((0 + ((9 : Int32)).toNatClampNeg) + ((512 : Int32)).toNatClampNeg) + ((10 : Int32)).toNatClampNeg) + ((10 : Int32)).toNatClampNeg) + ((10 : Int32)).toNatClampNeg) + ((10 : Int32)).toNatClampNeg ≤ n ∧ ((10 : Int32)).toNatClampNeg * 4 ≤ 536870912 ∧ ∀ q22 : Nat, ¬ q22 ∈ S20.L → wkLt (wnI S20 q22 13 ((10 : Int32)).toNatClampNeg (fun _ => 0)) fun S23 => wkLt (wu_Networks_flow S23 l0A (some q22)) fun S24 => ¬ (7 : Int32) < 0 ∧ ((((((0 + 1) + 1) + 1) + 1) + 1) + 1) + 1 ≤ k ∧ ((((((0 + ((9 : Int32)).toNatClampNeg) + ((512 : Int32)).toNatClampNeg) + ((10 : Int32)).toNatClampNeg) + ((10 : Int32)).toNatClampNeg) + ((10 : Int32)).toNatClampNeg) + ((10 : Int32)).toNatClampNeg) + ((7 : Int32)).toNatClampNeg ≤ n ∧ ((7 : Int32)).toNatClampNeg * 4 ≤ 536870912 ∧ ∀ q26 : Nat, ¬ q26 ∈ S24.L → wkLt (wnI S24 q26 13 ((7 : Int32)).toNatClampNeg (fun _ => 0)) fun S27 => wkLt (wu_Networks_via S27 l0A (some q26)) fun S28 => ¬ (7 : Int32) < 0 ∧ (((((((0 + 1) + 1) + 1) + 1) + 1) + 1) + 1) + 1 ≤ k ∧ (((((((0 + ((9 : Int32)).toNatClampNeg) + ((512 : Int32)).toNatClampNeg) + ((10 : Int32)).toNatClampNeg) + ((10 : Int32)).toNatClampNeg) + ((10 : Int32)).toNatClampNeg) + ((10 : Int32)).toNatClampNeg) + ((7 : Int32)).toNatClampNeg) + ((7 : Int32)).toNatClampNeg ≤ n ∧ ((7 : Int32)).toNatClampNeg * 4 ≤ 536870912 ∧ ∀ q30 : Nat, ¬ q30 ∈ S28.L → wkLt (wnI S28 q30 13 ((7 : Int32)).toNatClampNeg (fun _ => 0)) fun S31 => wkLt (wu_Networks_excess S31 l0A (some q30)) fun S32 => Φ () S32
set_option maxHeartbeats 4000000 in
set_option maxRecDepth 100000 in
theorem tX7_init {l : Launch} {g : wkG} {F : Nat} {k n : Nat}  {S : wPS} {l0A : Nat} {Φ : (Unit → wPS → Prop)} (hW : wkTT S) (hl0A : wkIs S l0A 7) (h : rX7_init F k n l0A S Φ) : wkMet l g yX7_init wvX7_init 1 k n [.ref l0A] S (fun v' S'' => ∃ v : Unit, v' = none ∧ Φ v S'' ∧ wkTT S'' ∧ wkExt S S'') := by
  refine wkMet_ofI (ret := none) (plainFor_of_name (by decide)) rfl rfl (Nat.le_of_ble_eq_true rfl) (fun X hg C hR hI0 E => ?_)
  subst hg
  have hE : wkExt S S := wkExt.rf
  have hd : 1 ≤ 1 := Nat.le_refl _
  show wkGo l X 1 0 0 0 S [some (.ref l0A)] []
  unfold rX7_init at h
  refine wk_aload_n C dX7_init_0 rfl rfl ?_
  refine wk_objInit C hR (List.mem_of_getElem? (i := 1) rfl) (List.mem_of_getElem? (i := 2) rfl) (List.mem_of_getElem? (i := 3) rfl) (Nat.le_trans (by decide) hd) (Nat.le_of_ble_eq_true rfl) dX7_init_1 ?_
  refine wk_aload_n C dX7_init_4 rfl rfl ?_
  refine wk_bipush C (v := 9) dX7_init_5 (by decide) ?_
  obtain ⟨h1a, h1b, h1c, h1d, h⟩ := h
  refine wk_newI C hR (List.mem_of_getElem? (i := 4) rfl) h1a h1b h1c h1d dX7_init_7 (fun q2 h1e => ?_)
  obtain ⟨S3, eS3, h⟩ := wkLt_some (h q2 h1e)
  rw [← eS3]
  obtain ⟨hXS3, hIS3⟩ := wkExt_newI eS3 h1e
  have hWS3 : wkTT S3 := trivial
  obtain ⟨S4, eS4, h⟩ := wkLt_some h
  refine wk_putF C hI0 (S' := S4) huX7_init_7 (hXS3 _ _ hl0A).1 (fun cy => wAt_7 cy _ (hXS3 _ _ hl0A).2) rfl 0 (by decide) (List.mem_of_getElem? (i := 5) rfl) rfl tyX7_ok nmX7 rfl rfl (ty := (.array .int)) rfl rfl rfl (by show 0 < 11; decide) (fun cy b => by rw [eS4]; exact wSt_7_0 cy _ (hXS3 _ _ hl0A).2 (some q2) b) (by rw [eS4]) dX7_init_9 ?_
  have hWS4 : wkTT S4 := trivial
  have hXS4 : wkExt S3 S4 := by rw [eS4]; exact wkExt.rf
  refine wk_aload_n C dX7_init_12 rfl rfl ?_
  refine wk_sipush C (v := 512) dX7_init_13 (by decide) ?_
  obtain ⟨h5a, h5b, h5c, h5d, h⟩ := h
  refine wk_newI C hR (List.mem_of_getElem? (i := 4) rfl) h5a h5b h5c h5d dX7_init_16 (fun q6 h5e => ?_)
  obtain ⟨S7, eS7, h⟩ := wkLt_some (h q6 h5e)
  rw [← eS7]
  obtain ⟨hXS7, hIS7⟩ := wkExt_newI eS7 h5e
  have hWS7 : wkTT S7 := trivial
  obtain ⟨S8, eS8, h⟩ := wkLt_some h
  refine wk_putF C hI0 (S' := S8) huX7_init_7 (hXS7 _ _ (hXS4 _ _ (hXS3 _ _ hl0A))).1 (fun cy => wAt_7 cy _ (hXS7 _ _ (hXS4 _ _ (hXS3 _ _ hl0A))).2) rfl 1 (by decide) (List.mem_of_getElem? (i := 6) rfl) rfl tyX7_ok nmX7 rfl rfl (ty := (.array .int)) rfl rfl rfl (by show 1 < 11; decide) (fun cy b => by rw [eS8]; exact wSt_7_1 cy _ (hXS7 _ _ (hXS4 _ _ (hXS3 _ _ hl0A))).2 (some q6) b) (by rw [eS8]) dX7_init_18 ?_
  have hWS8 : wkTT S8 := trivial
  have hXS8 : wkExt S7 S8 := by rw [eS8]; exact wkExt.rf
  refine wk_aload_n C dX7_init_21 rfl rfl ?_
  refine wk_bipush C (v := 10) dX7_init_22 (by decide) ?_
  obtain ⟨h9a, h9b, h9c, h9d, h⟩ := h
  refine wk_newI C hR (List.mem_of_getElem? (i := 4) rfl) h9a h9b h9c h9d dX7_init_24 (fun q10 h9e => ?_)
  obtain ⟨S11, eS11, h⟩ := wkLt_some (h q10 h9e)
  rw [← eS11]
  obtain ⟨hXS11, hIS11⟩ := wkExt_newI eS11 h9e
  have hWS11 : wkTT S11 := trivial
  obtain ⟨S12, eS12, h⟩ := wkLt_some h
  refine wk_putF C hI0 (S' := S12) huX7_init_7 (hXS11 _ _ (hXS8 _ _ (hXS7 _ _ (hXS4 _ _ (hXS3 _ _ hl0A))))).1 (fun cy => wAt_7 cy _ (hXS11 _ _ (hXS8 _ _ (hXS7 _ _ (hXS4 _ _ (hXS3 _ _ hl0A))))).2) rfl 2 (by decide) (List.mem_of_getElem? (i := 7) rfl) rfl tyX7_ok nmX7 rfl rfl (ty := (.array .int)) rfl rfl rfl (by show 2 < 11; decide) (fun cy b => by rw [eS12]; exact wSt_7_2 cy _ (hXS11 _ _ (hXS8 _ _ (hXS7 _ _ (hXS4 _ _ (hXS3 _ _ hl0A))))).2 (some q10) b) (by rw [eS12]) dX7_init_26 ?_
  have hWS12 : wkTT S12 := trivial
  have hXS12 : wkExt S11 S12 := by rw [eS12]; exact wkExt.rf
  refine wk_aload_n C dX7_init_29 rfl rfl ?_
  refine wk_bipush C (v := 10) dX7_init_30 (by decide) ?_
  obtain ⟨h13a, h13b, h13c, h13d, h⟩ := h
  refine wk_newI C hR (List.mem_of_getElem? (i := 4) rfl) h13a h13b h13c h13d dX7_init_32 (fun q14 h13e => ?_)
  obtain ⟨S15, eS15, h⟩ := wkLt_some (h q14 h13e)
  rw [← eS15]
  obtain ⟨hXS15, hIS15⟩ := wkExt_newI eS15 h13e
  have hWS15 : wkTT S15 := trivial
  obtain ⟨S16, eS16, h⟩ := wkLt_some h
  refine wk_putF C hI0 (S' := S16) huX7_init_7 (hXS15 _ _ (hXS12 _ _ (hXS11 _ _ (hXS8 _ _ (hXS7 _ _ (hXS4 _ _ (hXS3 _ _ hl0A))))))).1 (fun cy => wAt_7 cy _ (hXS15 _ _ (hXS12 _ _ (hXS11 _ _ (hXS8 _ _ (hXS7 _ _ (hXS4 _ _ (hXS3 _ _ hl0A))))))).2) rfl 3 (by decide) (List.mem_of_getElem? (i := 8) rfl) rfl tyX7_ok nmX7 rfl rfl (ty := (.array .int)) rfl rfl rfl (by show 3 < 11; decide) (fun cy b => by rw [eS16]; exact wSt_7_3 cy _ (hXS15 _ _ (hXS12 _ _ (hXS11 _ _ (hXS8 _ _ (hXS7 _ _ (hXS4 _ _ (hXS3 _ _ hl0A))))))).2 (some q14) b) (by rw [eS16]) dX7_init_34 ?_
  have hWS16 : wkTT S16 := trivial
  have hXS16 : wkExt S15 S16 := by rw [eS16]; exact wkExt.rf
  refine wk_aload_n C dX7_init_37 rfl rfl ?_
  refine wk_bipush C (v := 10) dX7_init_38 (by decide) ?_
  obtain ⟨h17a, h17b, h17c, h17d, h⟩ := h
  refine wk_newI C hR (List.mem_of_getElem? (i := 4) rfl) h17a h17b h17c h17d dX7_init_40 (fun q18 h17e => ?_)
  obtain ⟨S19, eS19, h⟩ := wkLt_some (h q18 h17e)
  rw [← eS19]
  obtain ⟨hXS19, hIS19⟩ := wkExt_newI eS19 h17e
  have hWS19 : wkTT S19 := trivial
  obtain ⟨S20, eS20, h⟩ := wkLt_some h
  refine wk_putF C hI0 (S' := S20) huX7_init_7 (hXS19 _ _ (hXS16 _ _ (hXS15 _ _ (hXS12 _ _ (hXS11 _ _ (hXS8 _ _ (hXS7 _ _ (hXS4 _ _ (hXS3 _ _ hl0A))))))))).1 (fun cy => wAt_7 cy _ (hXS19 _ _ (hXS16 _ _ (hXS15 _ _ (hXS12 _ _ (hXS11 _ _ (hXS8 _ _ (hXS7 _ _ (hXS4 _ _ (hXS3 _ _ hl0A))))))))).2) rfl 4 (by decide) (List.mem_of_getElem? (i := 9) rfl) rfl tyX7_ok nmX7 rfl rfl (ty := (.array .int)) rfl rfl rfl (by show 4 < 11; decide) (fun cy b => by rw [eS20]; exact wSt_7_4 cy _ (hXS19 _ _ (hXS16 _ _ (hXS15 _ _ (hXS12 _ _ (hXS11 _ _ (hXS8 _ _ (hXS7 _ _ (hXS4 _ _ (hXS3 _ _ hl0A))))))))).2 (some q18) b) (by rw [eS20]) dX7_init_42 ?_
  have hWS20 : wkTT S20 := trivial
  have hXS20 : wkExt S19 S20 := by rw [eS20]; exact wkExt.rf
  refine wk_aload_n C dX7_init_45 rfl rfl ?_
  refine wk_bipush C (v := 10) dX7_init_46 (by decide) ?_
  obtain ⟨h21a, h21b, h21c, h21d, h⟩ := h
  refine wk_newI C hR (List.mem_of_getElem? (i := 4) rfl) h21a h21b h21c h21d dX7_init_48 (fun q22 h21e => ?_)
  obtain ⟨S23, eS23, h⟩ := wkLt_some (h q22 h21e)
  rw [← eS23]
  obtain ⟨hXS23, hIS23⟩ := wkExt_newI eS23 h21e
  have hWS23 : wkTT S23 := trivial
  obtain ⟨S24, eS24, h⟩ := wkLt_some h
  refine wk_putF C hI0 (S' := S24) huX7_init_7 (hXS23 _ _ (hXS20 _ _ (hXS19 _ _ (hXS16 _ _ (hXS15 _ _ (hXS12 _ _ (hXS11 _ _ (hXS8 _ _ (hXS7 _ _ (hXS4 _ _ (hXS3 _ _ hl0A))))))))))).1 (fun cy => wAt_7 cy _ (hXS23 _ _ (hXS20 _ _ (hXS19 _ _ (hXS16 _ _ (hXS15 _ _ (hXS12 _ _ (hXS11 _ _ (hXS8 _ _ (hXS7 _ _ (hXS4 _ _ (hXS3 _ _ hl0A))))))))))).2) rfl 5 (by decide) (List.mem_of_getElem? (i := 10) rfl) rfl tyX7_ok nmX7 rfl rfl (ty := (.array .int)) rfl rfl rfl (by show 5 < 11; decide) (fun cy b => by rw [eS24]; exact wSt_7_5 cy _ (hXS23 _ _ (hXS20 _ _ (hXS19 _ _ (hXS16 _ _ (hXS15 _ _ (hXS12 _ _ (hXS11 _ _ (hXS8 _ _ (hXS7 _ _ (hXS4 _ _ (hXS3 _ _ hl0A))))))))))).2 (some q22) b) (by rw [eS24]) dX7_init_50 ?_
  have hWS24 : wkTT S24 := trivial
  have hXS24 : wkExt S23 S24 := by rw [eS24]; exact wkExt.rf
  refine wk_aload_n C dX7_init_53 rfl rfl ?_
  refine wk_bipush C (v := 7) dX7_init_54 (by decide) ?_
  obtain ⟨h25a, h25b, h25c, h25d, h⟩ := h
  refine wk_newI C hR (List.mem_of_getElem? (i := 4) rfl) h25a h25b h25c h25d dX7_init_56 (fun q26 h25e => ?_)
  obtain ⟨S27, eS27, h⟩ := wkLt_some (h q26 h25e)
  rw [← eS27]
  obtain ⟨hXS27, hIS27⟩ := wkExt_newI eS27 h25e
  have hWS27 : wkTT S27 := trivial
  obtain ⟨S28, eS28, h⟩ := wkLt_some h
  refine wk_putF C hI0 (S' := S28) huX7_init_7 (hXS27 _ _ (hXS24 _ _ (hXS23 _ _ (hXS20 _ _ (hXS19 _ _ (hXS16 _ _ (hXS15 _ _ (hXS12 _ _ (hXS11 _ _ (hXS8 _ _ (hXS7 _ _ (hXS4 _ _ (hXS3 _ _ hl0A))))))))))))).1 (fun cy => wAt_7 cy _ (hXS27 _ _ (hXS24 _ _ (hXS23 _ _ (hXS20 _ _ (hXS19 _ _ (hXS16 _ _ (hXS15 _ _ (hXS12 _ _ (hXS11 _ _ (hXS8 _ _ (hXS7 _ _ (hXS4 _ _ (hXS3 _ _ hl0A))))))))))))).2) rfl 6 (by decide) (List.mem_of_getElem? (i := 11) rfl) rfl tyX7_ok nmX7 rfl rfl (ty := (.array .int)) rfl rfl rfl (by show 6 < 11; decide) (fun cy b => by rw [eS28]; exact wSt_7_6 cy _ (hXS27 _ _ (hXS24 _ _ (hXS23 _ _ (hXS20 _ _ (hXS19 _ _ (hXS16 _ _ (hXS15 _ _ (hXS12 _ _ (hXS11 _ _ (hXS8 _ _ (hXS7 _ _ (hXS4 _ _ (hXS3 _ _ hl0A))))))))))))).2 (some q26) b) (by rw [eS28]) dX7_init_58 ?_
  have hWS28 : wkTT S28 := trivial
  have hXS28 : wkExt S27 S28 := by rw [eS28]; exact wkExt.rf
  refine wk_aload_n C dX7_init_61 rfl rfl ?_
  refine wk_bipush C (v := 7) dX7_init_62 (by decide) ?_
  obtain ⟨h29a, h29b, h29c, h29d, h⟩ := h
  refine wk_newI C hR (List.mem_of_getElem? (i := 4) rfl) h29a h29b h29c h29d dX7_init_64 (fun q30 h29e => ?_)
  obtain ⟨S31, eS31, h⟩ := wkLt_some (h q30 h29e)
  rw [← eS31]
  obtain ⟨hXS31, hIS31⟩ := wkExt_newI eS31 h29e
  have hWS31 : wkTT S31 := trivial
  obtain ⟨S32, eS32, h⟩ := wkLt_some h
  refine wk_putF C hI0 (S' := S32) huX7_init_7 (hXS31 _ _ (hXS28 _ _ (hXS27 _ _ (hXS24 _ _ (hXS23 _ _ (hXS20 _ _ (hXS19 _ _ (hXS16 _ _ (hXS15 _ _ (hXS12 _ _ (hXS11 _ _ (hXS8 _ _ (hXS7 _ _ (hXS4 _ _ (hXS3 _ _ hl0A))))))))))))))).1 (fun cy => wAt_7 cy _ (hXS31 _ _ (hXS28 _ _ (hXS27 _ _ (hXS24 _ _ (hXS23 _ _ (hXS20 _ _ (hXS19 _ _ (hXS16 _ _ (hXS15 _ _ (hXS12 _ _ (hXS11 _ _ (hXS8 _ _ (hXS7 _ _ (hXS4 _ _ (hXS3 _ _ hl0A))))))))))))))).2) rfl 7 (by decide) (List.mem_of_getElem? (i := 12) rfl) rfl tyX7_ok nmX7 rfl rfl (ty := (.array .int)) rfl rfl rfl (by show 7 < 11; decide) (fun cy b => by rw [eS32]; exact wSt_7_7 cy _ (hXS31 _ _ (hXS28 _ _ (hXS27 _ _ (hXS24 _ _ (hXS23 _ _ (hXS20 _ _ (hXS19 _ _ (hXS16 _ _ (hXS15 _ _ (hXS12 _ _ (hXS11 _ _ (hXS8 _ _ (hXS7 _ _ (hXS4 _ _ (hXS3 _ _ hl0A))))))))))))))).2 (some q30) b) (by rw [eS32]) dX7_init_66 ?_
  have hWS32 : wkTT S32 := trivial
  have hXS32 : wkExt S31 S32 := by rw [eS32]; exact wkExt.rf
  exact E _ _ _ _ _ h29b h29c dX7_init_69 ⟨(), rfl, h, hWS32, (wkExt.tr (wkExt.tr (wkExt.tr (wkExt.tr (wkExt.tr (wkExt.tr (wkExt.tr (wkExt.tr (wkExt.tr (wkExt.tr (wkExt.tr (wkExt.tr (wkExt.tr (wkExt.tr (wkExt.tr (wkExt.tr hE hXS3) hXS4) hXS7) hXS8) hXS11) hXS12) hXS15) hXS16) hXS19) hXS20) hXS23) hXS24) hXS27) hXS28) hXS31) hXS32)⟩
def wvX7_canBeAlone : List Cond := .code yX7_canBeAlone cX7_canBeAlone 4 (some .boolean) :: (([.fieldLink RX7 15 "Witnessworks$Networks" "best" "[I"] : List Cond) ++ ((wsX70) ++ ([])))
theorem huX7_canBeAlone_7 : ∀ w ∈ u_ws RX7 TX7 11, w ∈ wvX7_canBeAlone := fun w h => List.mem_cons_of_mem _ (List.mem_append_right _ (List.mem_append_left _ h))
theorem gdX7_canBeAlone : ∀ w ∈ wvX7_canBeAlone, wkGd w := wkGdC rfl (wkGdA (wkGdL (by decide +kernel)) (wkGdA gdX7 (fun _ h => absurd h List.not_mem_nil)))
def rX7_canBeAlone (F : Nat) (l0A : Nat) (l1I : Int32) (l2I : Int32) (S : wPS) (Φ : (Int32 → wPS → Prop)) : Prop :=
  wkLt ((((1 : Int32) <<< (l1I &&& 31)) - (1 : Int32))) fun x1 => ¬ ((x1 &&& (((1 : Int32) <<< (l2I &&& 31)) ^^^ (-1 : Int32))) < 0 ∨ S.len (wkAd (gNetworks_best S l0A)) ≤ ((x1 &&& (((1 : Int32) <<< (l2I &&& 31)) ^^^ (-1 : Int32)))).toNatClampNeg) ∧ ¬ (x1 < 0 ∨ S.len (wkAd (gNetworks_best S l0A)) ≤ (x1).toNatClampNeg) ∧ if (S.rI (wkAd (gNetworks_best S l0A)) ((x1 &&& (((1 : Int32) <<< (l2I &&& 31)) ^^^ (-1 : Int32)))).toNatClampNeg) = (S.rI (wkAd (gNetworks_best S l0A)) (x1).toNatClampNeg) then (Φ (1 : Int32) S) else (Φ (0 : Int32) S)
set_option maxHeartbeats 4000000 in
set_option maxRecDepth 100000 in
theorem tX7_canBeAlone {l : Launch} {g : wkG} {F : Nat}  {S : wPS} {l0A : Nat} {l1I : Int32} {l2I : Int32} {Φ : (Int32 → wPS → Prop)} (hW : wkWF S) (hl0A : wkIs S l0A 7) (h : rX7_canBeAlone F l0A l1I l2I S Φ) : wkMet l g yX7_canBeAlone wvX7_canBeAlone 0 0 0 [.ref l0A, .int l1I, .int l2I] S (fun v' S'' => ∃ v : Int32, v' = some (.int v) ∧ Φ v S'' ∧ wkWF S'' ∧ wkExt S S'') := by
  refine wkMet_of (ret := (some .boolean)) (by decide) rfl (Nat.le_of_ble_eq_true rfl) (fun X hg C hR E => ?_)
  subst hg
  have hE : wkExt S S := wkExt.rf
  have hd : 0 ≤ 0 := Nat.le_refl _
  show wkGo l X 4 0 0 0 S [some (.ref l0A), some (.int l1I), some (.int l2I), none] []
  unfold rX7_canBeAlone at h
  refine wk_iconst C (v := 1) dX7_canBeAlone_0 (by decide) ?_
  refine wk_iload_n C dX7_canBeAlone_1 rfl rfl ?_
  refine wk_ishl C dX7_canBeAlone_2 rfl ?_
  refine wk_iconst C (v := 1) dX7_canBeAlone_3 (by decide) ?_
  refine wk_isub C dX7_canBeAlone_4 rfl ?_
  obtain ⟨x1, ex1, h⟩ := wkLt_some h
  refine wk_topi ex1 ?_
  refine wk_istore_n C (lv' := [some (.ref l0A), some (.int l1I), some (.int l2I), some (.int x1)]) dX7_canBeAlone_5 rfl (by decide) rfl ?_
  refine wk_aload_n C dX7_canBeAlone_6 rfl rfl ?_
  refine wk_get C huX7_canBeAlone_7 hl0A.1 (fun cy => wAt_7 cy _ hl0A.2) rfl 1 (by decide) (List.mem_of_getElem? (i := 1) rfl) rfl (congrArg some (congrArg va_rf (wf_Networks_best hW hl0A).1)) dX7_canBeAlone_7 ?_
  refine wk_iload_n C dX7_canBeAlone_10 rfl rfl ?_
  refine wk_iconst C (v := 1) dX7_canBeAlone_11 (by decide) ?_
  refine wk_iload_n C dX7_canBeAlone_12 rfl rfl ?_
  refine wk_ishl C dX7_canBeAlone_13 rfl ?_
  refine wk_iconst C (v := (-1)) dX7_canBeAlone_14 (by decide) ?_
  refine wk_ixor C dX7_canBeAlone_15 rfl ?_
  refine wk_iand C dX7_canBeAlone_16 rfl ?_
  obtain ⟨i2, h⟩ := h
  refine wk_iald C (wf_Networks_best hW hl0A).2.1 (wf_Networks_best hW hl0A).2.2 i2 rfl dX7_canBeAlone_17 ?_
  refine wk_aload_n C dX7_canBeAlone_18 rfl rfl ?_
  refine wk_get C huX7_canBeAlone_7 hl0A.1 (fun cy => wAt_7 cy _ hl0A.2) rfl 1 (by decide) (List.mem_of_getElem? (i := 1) rfl) rfl (congrArg some (congrArg va_rf (wf_Networks_best hW hl0A).1)) dX7_canBeAlone_19 ?_
  refine wk_iload_n C dX7_canBeAlone_22 rfl rfl ?_
  obtain ⟨i3, h⟩ := h
  refine wk_iald C (wf_Networks_best hW hl0A).2.1 (wf_Networks_best hW hl0A).2.2 i3 rfl dX7_canBeAlone_23 ?_
  refine wk_icmp_ne C (tgt := 31) dX7_canBeAlone_24 (by decide) (fun c4 => ?_) (fun c4 => ?_)
  · rw [if_neg c4] at h
    refine wk_iconst C (v := 0) dX7_canBeAlone_31 (by decide) ?_
    exact E _ _ _ _ _ _ (Nat.le_refl 0) (Nat.le_refl 0) dX7_canBeAlone_32 rfl ⟨(0 : Int32), rfl, h, hW, hE⟩
  · rw [if_pos c4] at h
    refine wk_iconst C (v := 1) dX7_canBeAlone_27 (by decide) ?_
    refine wk_goto C (tgt := 32) dX7_canBeAlone_28 (by decide) ?_
    exact E _ _ _ _ _ _ (Nat.le_refl 0) (Nat.le_refl 0) dX7_canBeAlone_32 rfl ⟨(1 : Int32), rfl, h, hW, hE⟩
def wvX7_loadFlows : List Cond := .code yX7_loadFlows cX7_loadFlows 3 none :: (([.fieldLink RX7 147 "Witnessworks$Networks" "itemCount" "I", .fieldLink RX7 18 "Witnessworks$Networks" "from" "[I", .methodLink RX7 154 yX3_at, .instanceMethod yX3_at, .selects RX3 yX3_at yX3_at, .initialized RX3, .fieldLink RX7 21 "Witnessworks$Networks" "to" "[I", .fieldLink RX7 24 "Witnessworks$Networks" "caps" "[I", .fieldLink RX7 40 "Witnessworks$Entry" "size" "I", .fieldLink RX7 138 "Witnessworks$Networks" "nodeCount" "I", .fieldLink RX7 153 "Witnessworks$Entry" "itemCount" "I"] : List Cond) ++ ((wsX70 ++ (wsX30)) ++ (wvX3_at)))
theorem huX7_loadFlows_7 : ∀ w ∈ u_ws RX7 TX7 11, w ∈ wvX7_loadFlows := fun w h => List.mem_cons_of_mem _ (List.mem_append_right _ (List.mem_append_left _ (List.mem_append_left _ h)))
theorem huX7_loadFlows_3 : ∀ w ∈ u_ws RX3 TX3 17, w ∈ wvX7_loadFlows := fun w h => List.mem_cons_of_mem _ (List.mem_append_right _ (List.mem_append_left _ (List.mem_append_right _ h)))
theorem hbX7_loadFlows_X3_at : ∀ w ∈ wvX3_at, w ∈ wvX7_loadFlows := fun w h => List.mem_cons_of_mem _ (List.mem_append_right _ (List.mem_append_right _ h))
theorem gdX7_loadFlows : ∀ w ∈ wvX7_loadFlows, wkGd w := wkGdC rfl (wkGdA (wkGdL (by decide +kernel)) (wkGdA (wkGdA gdX7 gdX3) gdX3_at))
def rX7_loadFlows_b0 (F : Nat) (rec : Nat → Nat → Nat → Int32 → wPS → (Unit → wPS → Prop) → Prop) (l0A : Nat) (l1A : Nat) (l2I : Int32) (S : wPS) (Φ : (Unit → wPS → Prop)) : Prop :=
  if (gNetworks_itemCount S l0A) ≤ l2I then (Φ () S) else (rX3_at F l1A l2I (0 : Int32) S fun v2 S3 => ¬ (l2I < 0 ∨ S3.len (wkAd (gNetworks_from S l0A)) ≤ (l2I).toNatClampNeg) ∧ wkLt (wuI S3 (wkAd (gNetworks_from S l0A)) l2I v2) fun S8 => rX3_at F l1A l2I (1 : Int32) S8 fun v9 S10 => ¬ (l2I < 0 ∨ S10.len (wkAd (gNetworks_to S8 l0A)) ≤ (l2I).toNatClampNeg) ∧ wkLt (wuI S10 (wkAd (gNetworks_to S8 l0A)) l2I v9) fun S15 => rX3_at F l1A l2I (2 : Int32) S15 fun v16 S17 => ¬ (l2I < 0 ∨ S17.len (wkAd (gNetworks_caps S15 l0A)) ≤ (l2I).toNatClampNeg) ∧ wkLt (wuI S17 (wkAd (gNetworks_caps S15 l0A)) l2I v16) fun S22 => wkLt (l2I + (1 : Int32)) fun x23 => rec 0 l0A l1A x23 S22 Φ)
def rX7_loadFlows_go (F : Nat) : Nat → Nat → Nat → Nat → Int32 → wPS → (Unit → wPS → Prop) → Prop
  | 0, _, _, _, _, _, _ => False
  | k' + 1, lab, l0A, l1A, l2I, S, Φ => if lab = 0 then rX7_loadFlows_b0 F (rX7_loadFlows_go F k') l0A l1A l2I S Φ else False
def rX7_loadFlows_s (F : Nat) (rec : Nat → Nat → Nat → Int32 → wPS → (Unit → wPS → Prop) → Prop) (l0A : Nat) (l1A : Nat) (S : wPS) (Φ : (Unit → wPS → Prop)) : Prop :=
  wkLt (wu_Networks_nodeCount S l0A (gEntry_size S l1A)) fun S24 => wkLt (wu_Networks_itemCount S24 l0A (gEntry_itemCount S24 l1A)) fun S25 => rec 0 l0A l1A (0 : Int32) S25 Φ
def rX7_loadFlows (F : Nat) (l0A : Nat) (l1A : Nat) (S : wPS) (Φ : (Unit → wPS → Prop)) : Prop := rX7_loadFlows_s F (rX7_loadFlows_go F F) l0A l1A S Φ
set_option maxHeartbeats 4000000 in
set_option maxRecDepth 100000 in
theorem tX7_loadFlows_go {l : Launch} {X : wkX} {d F : Nat} {S0 : wPS} {Φ : (Unit → wPS → Prop)} (C : wkC X cX7_loadFlows RX7 3 wvX7_loadFlows) (hR : wkRm X d 0 0) (hd : 1 ≤ d) (E : wkEnd l X cX7_loadFlows 3 none 0 0 (fun v' S'' => ∃ v : Unit, v' = none ∧ Φ v S'' ∧ wkWF S'' ∧ wkExt S0 S'')) : ∀ k' : Nat, (∀ (l0A : Nat) (l1A : Nat) (l2I : Int32) (S : wPS), wkWF S → wkExt S0 S → wkIs S l0A 7 → wkIs S l1A 3 → rX7_loadFlows_go F k' 0 l0A l1A l2I S Φ → wkGo l X 3 0 0 18 S [some (.ref l0A), some (.ref l1A), some (.int l2I)] []) := by
  intro k'
  induction k' with
  | zero => exact fun l0A l1A l2I S hW hE hl0A hl1A h => h.elim
  | succ k' ih =>
    · intro l0A l1A l2I S hW hE hl0A hl1A h
      have h : rX7_loadFlows_b0 F (rX7_loadFlows_go F k') l0A l1A l2I S Φ := by
        rw [rX7_loadFlows_go, if_pos (rfl : (0 : Nat) = 0)] at h
        exact h
      unfold rX7_loadFlows_b0 at h
      refine wk_iload_n C dX7_loadFlows_18 rfl rfl ?_
      refine wk_aload_n C dX7_loadFlows_19 rfl rfl ?_
      refine wk_get C (v := .int (gNetworks_itemCount S l0A)) huX7_loadFlows_7 hl0A.1 (fun cy => wAt_7 cy _ hl0A.2) rfl 9 (by decide) (List.mem_of_getElem? (i := 1) rfl) rfl rfl dX7_loadFlows_20 ?_
      refine wk_icmp_ge C (tgt := 68) dX7_loadFlows_23 (by decide) (fun c1 => ?_) (fun c1 => ?_)
      · rw [if_pos c1] at h
        exact E _ _ _ _ _ (Nat.le_refl 0) (Nat.le_refl 0) dX7_loadFlows_68 ⟨(), rfl, h, hW, hE⟩
      · rw [if_neg c1] at h
        refine wk_aload_n C dX7_loadFlows_26 rfl rfl ?_
        refine wk_get C huX7_loadFlows_7 hl0A.1 (fun cy => wAt_7 cy _ hl0A.2) rfl 2 (by decide) (List.mem_of_getElem? (i := 2) rfl) rfl (congrArg some (congrArg va_rf (wf_Networks_from hW hl0A).1)) dX7_loadFlows_27 ?_
        refine wk_iload_n C dX7_loadFlows_30 rfl rfl ?_
        refine wk_aload_n C dX7_loadFlows_31 rfl rfl ?_
        refine wk_iload_n C dX7_loadFlows_32 rfl rfl ?_
        refine wk_iconst C (v := 0) dX7_loadFlows_33 (by decide) ?_
        refine wk_callV C hR (As := [.int l2I, .int (0 : Int32)]) (cnt := 2) (tX3_at (l := l) hW hl1A h) rfl (wkGoodV (List.mem_of_getElem? (i := 3) rfl) (List.mem_of_getElem? (i := 4) rfl) (List.mem_of_getElem? (i := 5) rfl) (List.mem_of_getElem? (i := 6) rfl) hbX7_loadFlows_X3_at gdX3_at) (Nat.le_trans (by decide : 0 + 1 ≤ 1) hd) (by decide) hl1A.1 (fun cy => wAt_3 cy _ hl1A.2) rfl ⟨by decide, by decide, by decide +kernel⟩ rfl rfl (Nat.le_of_ble_eq_true rfl) (Nat.le_refl 0) (Nat.le_refl 0) dX7_loadFlows_34 (fun v' S3 hp => ?_)
        obtain ⟨v2, rfl, h, hWS3, hXS3⟩ := hp
        obtain ⟨i7, h⟩ := h
        obtain ⟨S8, eS8, h⟩ := wkLt_some h
        refine wk_iast C (hXS3 _ _ (wf_Networks_from hW hl0A).2).1 (hXS3 _ _ (wf_Networks_from hW hl0A).2).2 i7 eS8.symm dX7_loadFlows_37 ?_
        have hWS8 : wkWF S8 := by rw [eS8]; exact hWS3
        have hXS8 : wkExt S3 S8 := by rw [eS8]; exact wkExt.rf
        refine wk_aload_n C dX7_loadFlows_38 rfl rfl ?_
        refine wk_get C huX7_loadFlows_7 (hXS8 _ _ (hXS3 _ _ hl0A)).1 (fun cy => wAt_7 cy _ (hXS8 _ _ (hXS3 _ _ hl0A)).2) rfl 3 (by decide) (List.mem_of_getElem? (i := 7) rfl) rfl (congrArg some (congrArg va_rf (wf_Networks_to hWS8 (hXS8 _ _ (hXS3 _ _ hl0A))).1)) dX7_loadFlows_39 ?_
        refine wk_iload_n C dX7_loadFlows_42 rfl rfl ?_
        refine wk_aload_n C dX7_loadFlows_43 rfl rfl ?_
        refine wk_iload_n C dX7_loadFlows_44 rfl rfl ?_
        refine wk_iconst C (v := 1) dX7_loadFlows_45 (by decide) ?_
        refine wk_callV C hR (As := [.int l2I, .int (1 : Int32)]) (cnt := 2) (tX3_at (l := l) hWS8 (hXS8 _ _ (hXS3 _ _ hl1A)) h) rfl (wkGoodV (List.mem_of_getElem? (i := 3) rfl) (List.mem_of_getElem? (i := 4) rfl) (List.mem_of_getElem? (i := 5) rfl) (List.mem_of_getElem? (i := 6) rfl) hbX7_loadFlows_X3_at gdX3_at) (Nat.le_trans (by decide : 0 + 1 ≤ 1) hd) (by decide) (hXS8 _ _ (hXS3 _ _ hl1A)).1 (fun cy => wAt_3 cy _ (hXS8 _ _ (hXS3 _ _ hl1A)).2) rfl ⟨by decide, by decide, by decide +kernel⟩ rfl rfl (Nat.le_of_ble_eq_true rfl) (Nat.le_refl 0) (Nat.le_refl 0) dX7_loadFlows_46 (fun v' S10 hp => ?_)
        obtain ⟨v9, rfl, h, hWS10, hXS10⟩ := hp
        obtain ⟨i14, h⟩ := h
        obtain ⟨S15, eS15, h⟩ := wkLt_some h
        refine wk_iast C (hXS10 _ _ (wf_Networks_to hWS8 (hXS8 _ _ (hXS3 _ _ hl0A))).2).1 (hXS10 _ _ (wf_Networks_to hWS8 (hXS8 _ _ (hXS3 _ _ hl0A))).2).2 i14 eS15.symm dX7_loadFlows_49 ?_
        have hWS15 : wkWF S15 := by rw [eS15]; exact hWS10
        have hXS15 : wkExt S10 S15 := by rw [eS15]; exact wkExt.rf
        refine wk_aload_n C dX7_loadFlows_50 rfl rfl ?_
        refine wk_get C huX7_loadFlows_7 (hXS15 _ _ (hXS10 _ _ (hXS8 _ _ (hXS3 _ _ hl0A)))).1 (fun cy => wAt_7 cy _ (hXS15 _ _ (hXS10 _ _ (hXS8 _ _ (hXS3 _ _ hl0A)))).2) rfl 4 (by decide) (List.mem_of_getElem? (i := 8) rfl) rfl (congrArg some (congrArg va_rf (wf_Networks_caps hWS15 (hXS15 _ _ (hXS10 _ _ (hXS8 _ _ (hXS3 _ _ hl0A))))).1)) dX7_loadFlows_51 ?_
        refine wk_iload_n C dX7_loadFlows_54 rfl rfl ?_
        refine wk_aload_n C dX7_loadFlows_55 rfl rfl ?_
        refine wk_iload_n C dX7_loadFlows_56 rfl rfl ?_
        refine wk_iconst C (v := 2) dX7_loadFlows_57 (by decide) ?_
        refine wk_callV C hR (As := [.int l2I, .int (2 : Int32)]) (cnt := 2) (tX3_at (l := l) hWS15 (hXS15 _ _ (hXS10 _ _ (hXS8 _ _ (hXS3 _ _ hl1A)))) h) rfl (wkGoodV (List.mem_of_getElem? (i := 3) rfl) (List.mem_of_getElem? (i := 4) rfl) (List.mem_of_getElem? (i := 5) rfl) (List.mem_of_getElem? (i := 6) rfl) hbX7_loadFlows_X3_at gdX3_at) (Nat.le_trans (by decide : 0 + 1 ≤ 1) hd) (by decide) (hXS15 _ _ (hXS10 _ _ (hXS8 _ _ (hXS3 _ _ hl1A)))).1 (fun cy => wAt_3 cy _ (hXS15 _ _ (hXS10 _ _ (hXS8 _ _ (hXS3 _ _ hl1A)))).2) rfl ⟨by decide, by decide, by decide +kernel⟩ rfl rfl (Nat.le_of_ble_eq_true rfl) (Nat.le_refl 0) (Nat.le_refl 0) dX7_loadFlows_58 (fun v' S17 hp => ?_)
        obtain ⟨v16, rfl, h, hWS17, hXS17⟩ := hp
        obtain ⟨i21, h⟩ := h
        obtain ⟨S22, eS22, h⟩ := wkLt_some h
        refine wk_iast C (hXS17 _ _ (wf_Networks_caps hWS15 (hXS15 _ _ (hXS10 _ _ (hXS8 _ _ (hXS3 _ _ hl0A))))).2).1 (hXS17 _ _ (wf_Networks_caps hWS15 (hXS15 _ _ (hXS10 _ _ (hXS8 _ _ (hXS3 _ _ hl0A))))).2).2 i21 eS22.symm dX7_loadFlows_61 ?_
        have hWS22 : wkWF S22 := by rw [eS22]; exact hWS17
        have hXS22 : wkExt S17 S22 := by rw [eS22]; exact wkExt.rf
        obtain ⟨x23, ex23, h⟩ := wkLt_some h
        refine wk_iinc C (lv' := [some (.ref l0A), some (.ref l1A), some (.int x23)]) dX7_loadFlows_62 rfl (by rw [ex23]; rfl) (by decide) rfl ?_
        refine wk_goto C (tgt := 18) dX7_loadFlows_65 (by decide) ?_
        exact wk_forget (lv' := [some (.ref l0A), some (.ref l1A), some (.int x23)]) (wkLs.le ⟨rfl, rfl, rfl, trivial⟩) (ih _ _ _ _ hWS22 (wkExt.tr (wkExt.tr (wkExt.tr (wkExt.tr (wkExt.tr (wkExt.tr hE hXS3) hXS8) hXS10) hXS15) hXS17) hXS22) (hXS22 _ _ (hXS17 _ _ (hXS15 _ _ (hXS10 _ _ (hXS8 _ _ (hXS3 _ _ hl0A)))))) (hXS22 _ _ (hXS17 _ _ (hXS15 _ _ (hXS10 _ _ (hXS8 _ _ (hXS3 _ _ hl1A)))))) h)
set_option maxHeartbeats 4000000 in
set_option maxRecDepth 100000 in
theorem tX7_loadFlows {l : Launch} {g : wkG} {F : Nat}  {S : wPS} {l0A : Nat} {l1A : Nat} {Φ : (Unit → wPS → Prop)} (hW : wkWF S) (hl0A : wkIs S l0A 7) (hl1A : wkIs S l1A 3) (h : rX7_loadFlows F l0A l1A S Φ) : wkMet l g yX7_loadFlows wvX7_loadFlows 1 0 0 [.ref l0A, .ref l1A] S (fun v' S'' => ∃ v : Unit, v' = none ∧ Φ v S'' ∧ wkWF S'' ∧ wkExt S S'') := by
  refine wkMet_of (ret := none) (by decide) rfl (Nat.le_of_ble_eq_true rfl) (fun X hg C hR E => ?_)
  subst hg
  have hE : wkExt S S := wkExt.rf
  have hd : 1 ≤ 1 := Nat.le_refl _
  show wkGo l X 3 0 0 0 S [some (.ref l0A), some (.ref l1A), none] []
  have ih := tX7_loadFlows_go (F := F) C hR hd E F
  have h : rX7_loadFlows_s F (rX7_loadFlows_go F F) l0A l1A S Φ := h
  unfold rX7_loadFlows_s at h
  refine wk_aload_n C dX7_loadFlows_0 rfl rfl ?_
  refine wk_aload_n C dX7_loadFlows_1 rfl rfl ?_
  refine wk_get C (v := .int (gEntry_size S l1A)) huX7_loadFlows_3 hl1A.1 (fun cy => wAt_3 cy _ hl1A.2) rfl 1 (by decide) (List.mem_of_getElem? (i := 9) rfl) rfl rfl dX7_loadFlows_2 ?_
  obtain ⟨S24, eS24, h⟩ := wkLt_some h
  refine wk_put C (S' := S24) huX7_loadFlows_7 hl0A.1 (fun cy => wAt_7 cy _ hl0A.2) rfl 8 (by decide) (List.mem_of_getElem? (i := 10) rfl) rfl tyX7_ok nmX7 rfl (ty := .int) rfl rfl rfl (by show 8 < 11; decide) (fun cy b => by rw [eS24]; exact wSt_7_8 cy _ hl0A.2 _ b) (by rw [eS24]) dX7_loadFlows_5 ?_
  have hWS24 : wkWF S24 := by rw [eS24]; exact hW
  have hXS24 : wkExt S S24 := by rw [eS24]; exact wkExt.rf
  refine wk_aload_n C dX7_loadFlows_8 rfl rfl ?_
  refine wk_aload_n C dX7_loadFlows_9 rfl rfl ?_
  refine wk_get C (v := .int (gEntry_itemCount S24 l1A)) huX7_loadFlows_3 (hXS24 _ _ hl1A).1 (fun cy => wAt_3 cy _ (hXS24 _ _ hl1A).2) rfl 6 (by decide) (List.mem_of_getElem? (i := 11) rfl) rfl rfl dX7_loadFlows_10 ?_
  obtain ⟨S25, eS25, h⟩ := wkLt_some h
  refine wk_put C (S' := S25) huX7_loadFlows_7 (hXS24 _ _ hl0A).1 (fun cy => wAt_7 cy _ (hXS24 _ _ hl0A).2) rfl 9 (by decide) (List.mem_of_getElem? (i := 1) rfl) rfl tyX7_ok nmX7 rfl (ty := .int) rfl rfl rfl (by show 9 < 11; decide) (fun cy b => by rw [eS25]; exact wSt_7_9 cy _ (hXS24 _ _ hl0A).2 _ b) (by rw [eS25]) dX7_loadFlows_13 ?_
  have hWS25 : wkWF S25 := by rw [eS25]; exact hWS24
  have hXS25 : wkExt S24 S25 := by rw [eS25]; exact wkExt.rf
  refine wk_iconst C (v := 0) dX7_loadFlows_16 (by decide) ?_
  refine wk_istore_n C (lv' := [some (.ref l0A), some (.ref l1A), some (.int (0 : Int32))]) dX7_loadFlows_17 rfl (by decide) rfl ?_
  exact wk_forget (lv' := [some (.ref l0A), some (.ref l1A), some (.int (0 : Int32))]) (wkLs.le ⟨rfl, rfl, rfl, trivial⟩) (ih _ _ _ _ hWS25 (wkExt.tr (wkExt.tr hE hXS24) hXS25) (hXS25 _ _ (hXS24 _ _ hl0A)) (hXS25 _ _ (hXS24 _ _ hl1A)) h)
