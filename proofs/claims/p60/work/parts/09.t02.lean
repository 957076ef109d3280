def wvX2_init : List Cond := .code yX2_init cX2_init 1 none :: (([.methodLink RX2 1 objectInit, .instanceMethod objectInit, .code objectInit ⟨#[0xb1]⟩ 1 none, .arrayClass .int, .fieldLink RX2 9 "Witnessworks$Drawings" "near" "[I", .fieldLink RX2 13 "Witnessworks$Drawings" "used" "[I", .fieldLink RX2 16 "Witnessworks$Drawings" "firstPlace" "[I", .fieldLink RX2 19 "Witnessworks$Drawings" "owner" "[I", .fieldLink RX2 22 "Witnessworks$Drawings" "ring" "[I", .fieldLink RX2 25 "Witnessworks$Drawings" "spot" "[I", .fieldLink RX2 28 "Witnessworks$Drawings" "walksDue" "[I", .fieldLink RX2 31 "Witnessworks$Drawings" "ways" "[I"] : List Cond) ++ ((wsX20) ++ ([])))
theorem huX2_init_2 : ∀ w ∈ u_ws RX2 TX2 10, w ∈ wvX2_init := fun w h => List.mem_cons_of_mem _ (List.mem_append_right _ (List.mem_append_left _ h))
theorem gdX2_init : ∀ w ∈ wvX2_init, wkGd w := wkGdC rfl (wkGdA (wkGdL (by decide +kernel)) (wkGdA gdX2 (fun _ h => absurd h List.not_mem_nil)))
def rX2_init (F : Nat) (k n : Nat) (l0A : Nat) (S : wPS) (Φ : (Unit → wPS → Prop)) : Prop :=
  ¬ (7 : Int32) < 0 ∧ 0 + 1 ≤ k ∧ 0 + ((7 : Int32)).toNatClampNeg ≤ n ∧ ((7 : Int32)).toNatClampNeg * 4 ≤ 536870912 ∧ ∀ q2 : Nat, ¬ q2 ∈ S.L → wkLt (wnI S q2 13 ((7 : Int32)).toNatClampNeg (fun _ => 0)) fun S3 => wkLt (wu_Drawings_near S3 l0A (some q2)) fun S4 => ¬ (7 : Int32) < 0 ∧ (0 + 1) + 1 ≤ k ∧ (0 + ((7 : Int32)).toNatClampNeg) + ((7 : Int32)).toNatClampNeg ≤ n ∧ ((7 : Int32)).toNatClampNeg * 4 ≤ 536870912 ∧ ∀ q6 : Nat, ¬ q6 ∈ S4.L → wkLt (wnI S4 q6 13 ((7 : Int32)).toNatClampNeg (fun _ => 0)) fun S7 => wkLt (wu_Drawings_used S7 l0A (some q6)) fun S8 => ¬ (7 : Int32) < 0 ∧ ((0 + 1) + 1) + 1 ≤ k ∧ ((0 + ((7 : Int32)).toNatClampNeg) + ((7 : Int32)).toNatClampNeg) + ((7 : Int32)).toNatClampNeg ≤ n ∧ ((7 : Int32)).toNatClampNeg * 4 ≤ 536870912 ∧ ∀ q10 : Nat, ¬ q10 ∈ S8.L → wkLt (wnI S8 q10 13 ((7 : Int32)).toNatClampNeg (fun _ => 0)) fun S11 => wkLt (wu_Drawings_firstPlace S11 l0A (some q10)) fun S12 => ¬ (22 : Int32) < 0 ∧ (((0 + 1) + 1) + 1) + 1 ≤ k ∧ (((0 + ((7 : Int32)).toNatClampNeg) + ((7 : Int32)).toNatClampNeg) + ((7 : Int32)).toNatClampNeg) + ((22 : Int32)).toNatClampNeg ≤ n ∧ ((22 : Int32)).toNatClampNeg * 4 ≤ 536870912 ∧ ∀ q14 : Nat, ¬ q14 ∈ S12.L → wkLt (wnI S12 q14 13 ((22 : Int32)).toNatClampNeg (fun _ => 0)) fun S15 => wkLt (wu_Drawings_owner S15 l0A (some q14)) fun S16 => ¬ (22 : Int32) < 0 ∧ ((((0 + 1) + 1) + 1) + 1) + 1 ≤ k ∧ ((((0 + ((7 : Int32)).toNatClampNeg) + ((7 : Int32)).toNatClampNeg) + ((7 : Int32)).toNatClampNeg) + ((22 : Int32)).toNatClampNeg) + ((22 : Int32)).toNatClampNeg ≤ n ∧ ((22 : Int32)).toNatClampNeg * 4 ≤ 536870912 ∧ ∀ q18 : Nat, ¬ q18 ∈ S16.L → wkLt (wnI S16 q18 13 ((22 : Int32)).toNatClampNeg (fun _ => 0)) fun S19 => wkLt (wu_Drawings_ring S19 l0A (some q18)) fun S20 => ¬ (49 : Int32) < 0 ∧ (((((0 + 1) + 1) + 1) + 1) + 1) + 1 ≤ k ∧ (((((0 + ((7 : Int32)).toNatClampNeg) + ((7 : Int32)).toNatClampNeg) + ((7 : Int32)).toNatClampNeg) + ((22 : Int32)).toNatClampNeg) + ((22 : Int32)).toNatClampNeg) + ((49 : Int32)).toNatClampNeg ≤ n ∧ ((49 : Int32)).toNatClampNeg * 4 ≤ 536870912 ∧ ∀ q22 : Nat, ¬ q22 ∈ S20.L → wkLt (wnI S20 q22 13 ((49 : Int32)).toNatClampNeg (fun _ => 0)) fun S23 => wkLt (wu_Drawings_spot S23 l0A (some q22)) fun S24 => ¬ (7 : Int32) < 0 ∧ ((((((0 + 1) + 1) + 1) + 1) + 1) + 1) + 1 ≤ k ∧ ((((((0 + ((7 : Int32)).toNatClampNeg) + ((7 : Int32)).toNatClampNeg) + ((7 : Int32)).toNatClampNeg) + ((22 : Int32)).toNatClampNeg) + ((22 : Int32)).toNatClampNeg) + ((49 : Int32)).toNatClampNeg) + ((7 : Int32)).toNatClampNeg ≤ n ∧ ((7 : Int32)).toNatClampNeg * 4 ≤ 536870912 ∧ ∀ q26 : Nat, ¬ q26 ∈ S24.L → wkLt (wnI S24 q26 13 ((7 : Int32)).toNatClampNeg (fun _ => 0)) fun S27 => wkLt (wu_Drawings_walksDue S27 l0A (some q26)) fun S28 => ¬ (7 : Int32) < 0 ∧ (((((((0 + 1) + 1) + 1) + 1) + 1) + 1) + 1) + 1 ≤ k ∧ (((((((0 + ((7 : Int32)).toNatClampNeg) + ((7 : Int32)).toNatClampNeg) + ((7 : Int32)).toNatClampNeg) + ((22 : Int32)).toNatClampNeg) + ((22 : Int32)).toNatClampNeg) + ((49 : Int32)).toNatClampNeg) + ((7 : Int32)).toNatClampNeg) + ((7 : Int32)).toNatClampNeg ≤ n ∧ ((7 : Int32)).toNatClampNeg * 4 ≤ 536870912 ∧ ∀ q30 : Nat, ¬ q30 ∈ S28.L → wkLt (wnI S28 q30 13 ((7 : Int32)).toNatClampNeg (fun _ => 0)) fun S31 => wkLt (wu_Drawings_ways S31 l0A (some q30)) fun S32 => Φ () S32
set_option maxHeartbeats 4000000 in
set_option maxRecDepth 100000 in
theorem tX2_init {l : Launch} {g : wkG} {F : Nat} {k n : Nat}  {S : wPS} {l0A : Nat} {Φ : (Unit → wPS → Prop)} (hW : wkTT S) (hl0A : wkIs S l0A 2) (h : rX2_init F k n l0A S Φ) : wkMet l g yX2_init wvX2_init 1 k n [.ref l0A] S (fun v' S'' => ∃ v : Unit, v' = none ∧ Φ v S'' ∧ wkTT S'' ∧ wkExt S S'') := by
  refine wkMet_ofI (ret := none) (plainFor_of_name (by decide)) rfl rfl (Nat.le_of_ble_eq_true rfl) (fun X hg C hR hI0 E => ?_)
  subst hg
  have hE : wkExt S S := wkExt.rf
  have hd : 1 ≤ 1 := Nat.le_refl _
  show wkGo l X 1 0 0 0 S [some (.ref l0A)] []
  unfold rX2_init at h
  refine wk_aload_n C dX2_init_0 rfl rfl ?_
  refine wk_objInit C hR (List.mem_of_getElem? (i := 1) rfl) (List.mem_of_getElem? (i := 2) rfl) (List.mem_of_getElem? (i := 3) rfl) (Nat.le_trans (by decide) hd) (Nat.le_of_ble_eq_true rfl) dX2_init_1 ?_
  refine wk_aload_n C dX2_init_4 rfl rfl ?_
  refine wk_bipush C (v := 7) dX2_init_5 (by decide) ?_
  obtain ⟨h1a, h1b, h1c, h1d, h⟩ := h
  refine wk_newI C hR (List.mem_of_getElem? (i := 4) rfl) h1a h1b h1c h1d dX2_init_7 (fun q2 h1e => ?_)
  obtain ⟨S3, eS3, h⟩ := wkLt_some (h q2 h1e)
  rw [← eS3]
  obtain ⟨hXS3, hIS3⟩ := wkExt_newI eS3 h1e
  have hWS3 : wkTT S3 := trivial
  obtain ⟨S4, eS4, h⟩ := wkLt_some h
  refine wk_putF C hI0 (S' := S4) huX2_init_2 (hXS3 _ _ hl0A).1 (fun cy => wAt_2 cy _ (hXS3 _ _ hl0A).2) rfl 0 (by decide) (List.mem_of_getElem? (i := 5) rfl) rfl tyX2_ok nmX2 rfl rfl (ty := (.array .int)) rfl rfl rfl (by show 0 < 10; decide) (fun cy b => by rw [eS4]; exact wSt_2_0 cy _ (hXS3 _ _ hl0A).2 (some q2) b) (by rw [eS4]) dX2_init_9 ?_
  have hWS4 : wkTT S4 := trivial
  have hXS4 : wkExt S3 S4 := by rw [eS4]; exact wkExt.rf
  refine wk_aload_n C dX2_init_12 rfl rfl ?_
  refine wk_bipush C (v := 7) dX2_init_13 (by decide) ?_
  obtain ⟨h5a, h5b, h5c, h5d, h⟩ := h
  refine wk_newI C hR (List.mem_of_getElem? (i := 4) rfl) h5a h5b h5c h5d dX2_init_15 (fun q6 h5e => ?_)
  obtain ⟨S7, eS7, h⟩ := wkLt_some (h q6 h5e)
  rw [← eS7]
  obtain ⟨hXS7, hIS7⟩ := wkExt_newI eS7 h5e
  have hWS7 : wkTT S7 := trivial
  obtain ⟨S8, eS8, h⟩ := wkLt_some h
  refine wk_putF C hI0 (S' := S8) huX2_init_2 (hXS7 _ _ (hXS4 _ _ (hXS3 _ _ hl0A))).1 (fun cy => wAt_2 cy _ (hXS7 _ _ (hXS4 _ _ (hXS3 _ _ hl0A))).2) rfl 1 (by decide) (List.mem_of_getElem? (i := 6) rfl) rfl tyX2_ok nmX2 rfl rfl (ty := (.array .int)) rfl rfl rfl (by show 1 < 10; decide) (fun cy b => by rw [eS8]; exact wSt_2_1 cy _ (hXS7 _ _ (hXS4 _ _ (hXS3 _ _ hl0A))).2 (some q6) b) (by rw [eS8]) dX2_init_17 ?_
  have hWS8 : wkTT S8 := trivial
  have hXS8 : wkExt S7 S8 := by rw [eS8]; exact wkExt.rf
  refine wk_aload_n C dX2_init_20 rfl rfl ?_
  refine wk_bipush C (v := 7) dX2_init_21 (by decide) ?_
  obtain ⟨h9a, h9b, h9c, h9d, h⟩ := h
  refine wk_newI C hR (List.mem_of_getElem? (i := 4) rfl) h9a h9b h9c h9d dX2_init_23 (fun q10 h9e => ?_)
  obtain ⟨S11, eS11, h⟩ := wkLt_some (h q10 h9e)
  rw [← eS11]
  obtain ⟨hXS11, hIS11⟩ := wkExt_newI eS11 h9e
  have hWS11 : wkTT S11 := trivial
  obtain ⟨S12, eS12, h⟩ := wkLt_some h
  refine wk_putF C hI0 (S' := S12) huX2_init_2 (hXS11 _ _ (hXS8 _ _ (hXS7 _ _ (hXS4 _ _ (hXS3 _ _ hl0A))))).1 (fun cy => wAt_2 cy _ (hXS11 _ _ (hXS8 _ _ (hXS7 _ _ (hXS4 _ _ (hXS3 _ _ hl0A))))).2) rfl 2 (by decide) (List.mem_of_getElem? (i := 7) rfl) rfl tyX2_ok nmX2 rfl rfl (ty := (.array .int)) rfl rfl rfl (by show 2 < 10; decide) (fun cy b => by rw [eS12]; exact wSt_2_2 cy _ (hXS11 _ _ (hXS8 _ _ (hXS7 _ _ (hXS4 _ _ (hXS3 _ _ hl0A))))).2 (some q10) b) (by rw [eS12]) dX2_init_25 ?_
  have hWS12 : wkTT S12 := trivial
  have hXS12 : wkExt S11 S12 := by rw [eS12]; exact wkExt.rf
  refine wk_aload_n C dX2_init_28 rfl rfl ?_
  refine wk_bipush C (v := 22) dX2_init_29 (by decide) ?_
  obtain ⟨h13a, h13b, h13c, h13d, h⟩ := h
  refine wk_newI C hR (List.mem_of_getElem? (i := 4) rfl) h13a h13b h13c h13d dX2_init_31 (fun q14 h13e => ?_)
  obtain ⟨S15, eS15, h⟩ := wkLt_some (h q14 h13e)
  rw [← eS15]
  obtain ⟨hXS15, hIS15⟩ := wkExt_newI eS15 h13e
  have hWS15 : wkTT S15 := trivial
  obtain ⟨S16, eS16, h⟩ := wkLt_some h
  refine wk_putF C hI0 (S' := S16) huX2_init_2 (hXS15 _ _ (hXS12 _ _ (hXS11 _ _ (hXS8 _ _ (hXS7 _ _ (hXS4 _ _ (hXS3 _ _ hl0A))))))).1 (fun cy => wAt_2 cy _ (hXS15 _ _ (hXS12 _ _ (hXS11 _ _ (hXS8 _ _ (hXS7 _ _ (hXS4 _ _ (hXS3 _ _ hl0A))))))).2) rfl 3 (by decide) (List.mem_of_getElem? (i := 8) rfl) rfl tyX2_ok nmX2 rfl rfl (ty := (.array .int)) rfl rfl rfl (by show 3 < 10; decide) (fun cy b => by rw [eS16]; exact wSt_2_3 cy _ (hXS15 _ _ (hXS12 _ _ (hXS11 _ _ (hXS8 _ _ (hXS7 _ _ (hXS4 _ _ (hXS3 _ _ hl0A))))))).2 (some q14) b) (by rw [eS16]) dX2_init_33 ?_
  have hWS16 : wkTT S16 := trivial
  have hXS16 : wkExt S15 S16 := by rw [eS16]; exact wkExt.rf
  refine wk_aload_n C dX2_init_36 rfl rfl ?_
  refine wk_bipush C (v := 22) dX2_init_37 (by decide) ?_
  obtain ⟨h17a, h17b, h17c, h17d, h⟩ := h
  refine wk_newI C hR (List.mem_of_getElem? (i := 4) rfl) h17a h17b h17c h17d dX2_init_39 (fun q18 h17e => ?_)
  obtain ⟨S19, eS19, h⟩ := wkLt_some (h q18 h17e)
  rw [← eS19]
  obtain ⟨hXS19, hIS19⟩ := wkExt_newI eS19 h17e
  have hWS19 : wkTT S19 := trivial
  obtain ⟨S20, eS20, h⟩ := wkLt_some h
  refine wk_putF C hI0 (S' := S20) huX2_init_2 (hXS19 _ _ (hXS16 _ _ (hXS15 _ _ (hXS12 _ _ (hXS11 _ _ (hXS8 _ _ (hXS7 _ _ (hXS4 _ _ (hXS3 _ _ hl0A))))))))).1 (fun cy => wAt_2 cy _ (hXS19 _ _ (hXS16 _ _ (hXS15 _ _ (hXS12 _ _ (hXS11 _ _ (hXS8 _ _ (hXS7 _ _ (hXS4 _ _ (hXS3 _ _ hl0A))))))))).2) rfl 4 (by decide) (List.mem_of_getElem? (i := 9) rfl) rfl tyX2_ok nmX2 rfl rfl (ty := (.array .int)) rfl rfl rfl (by show 4 < 10; decide) (fun cy b => by rw [eS20]; exact wSt_2_4 cy _ (hXS19 _ _ (hXS16 _ _ (hXS15 _ _ (hXS12 _ _ (hXS11 _ _ (hXS8 _ _ (hXS7 _ _ (hXS4 _ _ (hXS3 _ _ hl0A))))))))).2 (some q18) b) (by rw [eS20]) dX2_init_41 ?_
  have hWS20 : wkTT S20 := trivial
  have hXS20 : wkExt S19 S20 := by rw [eS20]; exact wkExt.rf
  refine wk_aload_n C dX2_init_44 rfl rfl ?_
  refine wk_bipush C (v := 49) dX2_init_45 (by decide) ?_
  obtain ⟨h21a, h21b, h21c, h21d, h⟩ := h
  refine wk_newI C hR (List.mem_of_getElem? (i := 4) rfl) h21a h21b h21c h21d dX2_init_47 (fun q22 h21e => ?_)
  obtain ⟨S23, eS23, h⟩ := wkLt_some (h q22 h21e)
  rw [← eS23]
  obtain ⟨hXS23, hIS23⟩ := wkExt_newI eS23 h21e
  have hWS23 : wkTT S23 := trivial
  obtain ⟨S24, eS24, h⟩ := wkLt_some h
  refine wk_putF C hI0 (S' := S24) huX2_init_2 (hXS23 _ _ (hXS20 _ _ (hXS19 _ _ (hXS16 _ _ (hXS15 _ _ (hXS12 _ _ (hXS11 _ _ (hXS8 _ _ (hXS7 _ _ (hXS4 _ _ (hXS3 _ _ hl0A))))))))))).1 (fun cy => wAt_2 cy _ (hXS23 _ _ (hXS20 _ _ (hXS19 _ _ (hXS16 _ _ (hXS15 _ _ (hXS12 _ _ (hXS11 _ _ (hXS8 _ _ (hXS7 _ _ (hXS4 _ _ (hXS3 _ _ hl0A))))))))))).2) rfl 5 (by decide) (List.mem_of_getElem? (i := 10) rfl) rfl tyX2_ok nmX2 rfl rfl (ty := (.array .int)) rfl rfl rfl (by show 5 < 10; decide) (fun cy b => by rw [eS24]; exact wSt_2_5 cy _ (hXS23 _ _ (hXS20 _ _ (hXS19 _ _ (hXS16 _ _ (hXS15 _ _ (hXS12 _ _ (hXS11 _ _ (hXS8 _ _ (hXS7 _ _ (hXS4 _ _ (hXS3 _ _ hl0A))))))))))).2 (some q22) b) (by rw [eS24]) dX2_init_49 ?_
  have hWS24 : wkTT S24 := trivial
  have hXS24 : wkExt S23 S24 := by rw [eS24]; exact wkExt.rf
  refine wk_aload_n C dX2_init_52 rfl rfl ?_
  refine wk_bipush C (v := 7) dX2_init_53 (by decide) ?_
  obtain ⟨h25a, h25b, h25c, h25d, h⟩ := h
  refine wk_newI C hR (List.mem_of_getElem? (i := 4) rfl) h25a h25b h25c h25d dX2_init_55 (fun q26 h25e => ?_)
  obtain ⟨S27, eS27, h⟩ := wkLt_some (h q26 h25e)
  rw [← eS27]
  obtain ⟨hXS27, hIS27⟩ := wkExt_newI eS27 h25e
  have hWS27 : wkTT S27 := trivial
  obtain ⟨S28, eS28, h⟩ := wkLt_some h
  refine wk_putF C hI0 (S' := S28) huX2_init_2 (hXS27 _ _ (hXS24 _ _ (hXS23 _ _ (hXS20 _ _ (hXS19 _ _ (hXS16 _ _ (hXS15 _ _ (hXS12 _ _ (hXS11 _ _ (hXS8 _ _ (hXS7 _ _ (hXS4 _ _ (hXS3 _ _ hl0A))))))))))))).1 (fun cy => wAt_2 cy _ (hXS27 _ _ (hXS24 _ _ (hXS23 _ _ (hXS20 _ _ (hXS19 _ _ (hXS16 _ _ (hXS15 _ _ (hXS12 _ _ (hXS11 _ _ (hXS8 _ _ (hXS7 _ _ (hXS4 _ _ (hXS3 _ _ hl0A))))))))))))).2) rfl 6 (by decide) (List.mem_of_getElem? (i := 11) rfl) rfl tyX2_ok nmX2 rfl rfl (ty := (.array .int)) rfl rfl rfl (by show 6 < 10; decide) (fun cy b => by rw [eS28]; exact wSt_2_6 cy _ (hXS27 _ _ (hXS24 _ _ (hXS23 _ _ (hXS20 _ _ (hXS19 _ _ (hXS16 _ _ (hXS15 _ _ (hXS12 _ _ (hXS11 _ _ (hXS8 _ _ (hXS7 _ _ (hXS4 _ _ (hXS3 _ _ hl0A))))))))))))).2 (some q26) b) (by rw [eS28]) dX2_init_57 ?_
  have hWS28 : wkTT S28 := trivial
  have hXS28 : wkExt S27 S28 := by rw [eS28]; exact wkExt.rf
  refine wk_aload_n C dX2_init_60 rfl rfl ?_
  refine wk_bipush C (v := 7) dX2_init_61 (by decide) ?_
  obtain ⟨h29a, h29b, h29c, h29d, h⟩ := h
  refine wk_newI C hR (List.mem_of_getElem? (i := 4) rfl) h29a h29b h29c h29d dX2_init_63 (fun q30 h29e => ?_)
  obtain ⟨S31, eS31, h⟩ := wkLt_some (h q30 h29e)
  rw [← eS31]
  obtain ⟨hXS31, hIS31⟩ := wkExt_newI eS31 h29e
  have hWS31 : wkTT S31 := trivial
  obtain ⟨S32, eS32, h⟩ := wkLt_some h
  refine wk_putF C hI0 (S' := S32) huX2_init_2 (hXS31 _ _ (hXS28 _ _ (hXS27 _ _ (hXS24 _ _ (hXS23 _ _ (hXS20 _ _ (hXS19 _ _ (hXS16 _ _ (hXS15 _ _ (hXS12 _ _ (hXS11 _ _ (hXS8 _ _ (hXS7 _ _ (hXS4 _ _ (hXS3 _ _ hl0A))))))))))))))).1 (fun cy => wAt_2 cy _ (hXS31 _ _ (hXS28 _ _ (hXS27 _ _ (hXS24 _ _ (hXS23 _ _ (hXS20 _ _ (hXS19 _ _ (hXS16 _ _ (hXS15 _ _ (hXS12 _ _ (hXS11 _ _ (hXS8 _ _ (hXS7 _ _ (hXS4 _ _ (hXS3 _ _ hl0A))))))))))))))).2) rfl 7 (by decide) (List.mem_of_getElem? (i := 12) rfl) rfl tyX2_ok nmX2 rfl rfl (ty := (.array .int)) rfl rfl rfl (by show 7 < 10; decide) (fun cy b => by rw [eS32]; exact wSt_2_7 cy _ (hXS31 _ _ (hXS28 _ _ (hXS27 _ _ (hXS24 _ _ (hXS23 _ _ (hXS20 _ _ (hXS19 _ _ (hXS16 _ _ (hXS15 _ _ (hXS12 _ _ (hXS11 _ _ (hXS8 _ _ (hXS7 _ _ (hXS4 _ _ (hXS3 _ _ hl0A))))))))))))))).2 (some q30) b) (by rw [eS32]) dX2_init_65 ?_
  have hWS32 : wkTT S32 := trivial
  have hXS32 : wkExt S31 S32 := by rw [eS32]; exact wkExt.rf
  exact E _ _ _ _ _ h29b h29c dX2_init_68 ⟨(), rfl, h, hWS32, (wkExt.tr (wkExt.tr (wkExt.tr (wkExt.tr (wkExt.tr (wkExt.tr (wkExt.tr (wkExt.tr (wkExt.tr (wkExt.tr (wkExt.tr (wkExt.tr (wkExt.tr (wkExt.tr (wkExt.tr (wkExt.tr hE hXS3) hXS4) hXS7) hXS8) hXS11) hXS12) hXS15) hXS16) hXS19) hXS20) hXS23) hXS24) hXS27) hXS28) hXS31) hXS32)⟩
def wvX2_countedItems : List Cond := .code yX2_countedItems cX2_countedItems 1 (some .int) :: (([.fieldLink RX2 76 "Witnessworks$Entry" "boundNow" "I", .fieldLink RX2 79 "Witnessworks$Entry" "itemCount" "I", .methodLink RX2 82 Lib.Math.min.name, .static Lib.Math.min.name, .initialized "java/lang/Math", .code Lib.Math.min.name Lib.Math.min.code 2 (some .int)] : List Cond) ++ ((wsX30) ++ ([])))
theorem huX2_countedItems_3 : ∀ w ∈ u_ws RX3 TX3 17, w ∈ wvX2_countedItems := fun w h => List.mem_cons_of_mem _ (List.mem_append_right _ (List.mem_append_left _ h))
theorem gdX2_countedItems : ∀ w ∈ wvX2_countedItems, wkGd w := wkGdC rfl (wkGdA (wkGdL (by decide +kernel)) (wkGdA gdX3 (fun _ h => absurd h List.not_mem_nil)))
def rX2_countedItems (F : Nat) (l0A : Nat) (S : wPS) (Φ : (Int32 → wPS → Prop)) : Prop :=
  Φ (((1 : Int32) <<< ((if (gEntry_itemCount S l0A) < (gEntry_boundNow S l0A) then (gEntry_itemCount S l0A) else (gEntry_boundNow S l0A)) &&& 31)) - (1 : Int32)) S
set_option maxHeartbeats 4000000 in
set_option maxRecDepth 100000 in
theorem tX2_countedItems {l : Launch} {g : wkG} {F : Nat}  {S : wPS} {l0A : Nat} {Φ : (Int32 → wPS → Prop)} (hW : wkWF S) (hl0A : wkIs S l0A 3) (h : rX2_countedItems F l0A S Φ) : wkMet l g yX2_countedItems wvX2_countedItems 1 0 0 [.ref l0A] S (fun v' S'' => ∃ v : Int32, v' = some (.int v) ∧ Φ v S'' ∧ wkWF S'' ∧ wkExt S S'') := by
  refine wkMet_of (ret := (some .int)) (by decide) rfl (Nat.le_of_ble_eq_true rfl) (fun X hg C hR E => ?_)
  subst hg
  have hE : wkExt S S := wkExt.rf
  have hd : 1 ≤ 1 := Nat.le_refl _
  show wkGo l X 1 0 0 0 S [some (.ref l0A)] []
  unfold rX2_countedItems at h
  refine wk_iconst C (v := 1) dX2_countedItems_0 (by decide) ?_
  refine wk_aload_n C dX2_countedItems_1 rfl rfl ?_
  refine wk_get C (v := .int (gEntry_boundNow S l0A)) huX2_countedItems_3 hl0A.1 (fun cy => wAt_3 cy _ hl0A.2) rfl 8 (by decide) (List.mem_of_getElem? (i := 1) rfl) rfl rfl dX2_countedItems_2 ?_
  refine wk_aload_n C dX2_countedItems_5 rfl rfl ?_
  refine wk_get C (v := .int (gEntry_itemCount S l0A)) huX2_countedItems_3 hl0A.1 (fun cy => wAt_3 cy _ hl0A.2) rfl 6 (by decide) (List.mem_of_getElem? (i := 2) rfl) rfl rfl dX2_countedItems_6 ?_
  refine wk_mmin C hR (List.mem_of_getElem? (i := 3) rfl) (List.mem_of_getElem? (i := 4) rfl) (List.mem_of_getElem? (i := 5) rfl) (List.mem_of_getElem? (i := 6) rfl) (Nat.le_trans (by decide) hd) (Nat.le_refl 0) (Nat.le_refl 0) (Nat.le_of_ble_eq_true rfl) rfl dX2_countedItems_9 ?_
  refine wk_ishl C dX2_countedItems_12 rfl ?_
  refine wk_iconst C (v := 1) dX2_countedItems_13 (by decide) ?_
  refine wk_isub C dX2_countedItems_14 rfl ?_
  exact E _ _ _ _ _ _ (Nat.le_refl 0) (Nat.le_refl 0) dX2_countedItems_15 ⟨(((1 : Int32) <<< ((if (gEntry_itemCount S l0A) < (gEntry_boundNow S l0A) then (gEntry_itemCount S l0A) else (gEntry_boundNow S l0A)) &&& 31)) - (1 : Int32)), rfl, h, hW, hE⟩
def wvX2_setPlace : List Cond := .code yX2_setPlace cX2_setPlace 3 none :: (([.fieldLink RX2 22 "Witnessworks$Drawings" "ring" "[I", .fieldLink RX2 25 "Witnessworks$Drawings" "spot" "[I", .fieldLink RX2 19 "Witnessworks$Drawings" "owner" "[I"] : List Cond) ++ ((wsX20) ++ ([])))
theorem huX2_setPlace_2 : ∀ w ∈ u_ws RX2 TX2 10, w ∈ wvX2_setPlace := fun w h => List.mem_cons_of_mem _ (List.mem_append_right _ (List.mem_append_left _ h))
theorem gdX2_setPlace : ∀ w ∈ wvX2_setPlace, wkGd w := wkGdC rfl (wkGdA (wkGdL (by decide +kernel)) (wkGdA gdX2 (fun _ h => absurd h List.not_mem_nil)))
def rX2_setPlace (F : Nat) (l0A : Nat) (l1I : Int32) (l2I : Int32) (S : wPS) (Φ : (Unit → wPS → Prop)) : Prop :=
  ¬ (l1I < 0 ∨ S.len (wkAd (gDrawings_ring S l0A)) ≤ (l1I).toNatClampNeg) ∧ wkLt (wuI S (wkAd (gDrawings_ring S l0A)) l1I l2I) fun S2 => ¬ (l1I < 0 ∨ S2.len (wkAd (gDrawings_owner S2 l0A)) ≤ (l1I).toNatClampNeg) ∧ ¬ ((((S2.rI (wkAd (gDrawings_owner S2 l0A)) (l1I).toNatClampNeg) * (7 : Int32)) + l2I) < 0 ∨ S2.len (wkAd (gDrawings_spot S2 l0A)) ≤ ((((S2.rI (wkAd (gDrawings_owner S2 l0A)) (l1I).toNatClampNeg) * (7 : Int32)) + l2I)).toNatClampNeg) ∧ wkLt (wuI S2 (wkAd (gDrawings_spot S2 l0A)) (((S2.rI (wkAd (gDrawings_owner S2 l0A)) (l1I).toNatClampNeg) * (7 : Int32)) + l2I) l1I) fun S5 => Φ () S5
set_option maxHeartbeats 4000000 in
set_option maxRecDepth 100000 in
theorem tX2_setPlace {l : Launch} {g : wkG} {F : Nat}  {S : wPS} {l0A : Nat} {l1I : Int32} {l2I : Int32} {Φ : (Unit → wPS → Prop)} (hW : wkWF S) (hl0A : wkIs S l0A 2) (h : rX2_setPlace F l0A l1I l2I S Φ) : wkMet l g yX2_setPlace wvX2_setPlace 0 0 0 [.ref l0A, .int l1I, .int l2I] S (fun v' S'' => ∃ v : Unit, v' = none ∧ Φ v S'' ∧ wkWF S'' ∧ wkExt S S'') := by
  refine wkMet_of (ret := none) (by decide) rfl (Nat.le_of_ble_eq_true rfl) (fun X hg C hR E => ?_)
  subst hg
  have hE : wkExt S S := wkExt.rf
  have hd : 0 ≤ 0 := Nat.le_refl _
  show wkGo l X 3 0 0 0 S [some (.ref l0A), some (.int l1I), some (.int l2I)] []
  unfold rX2_setPlace at h
  refine wk_aload_n C dX2_setPlace_0 rfl rfl ?_
  refine wk_get C huX2_setPlace_2 hl0A.1 (fun cy => wAt_2 cy _ hl0A.2) rfl 4 (by decide) (List.mem_of_getElem? (i := 1) rfl) rfl (congrArg some (congrArg va_rf (wf_Drawings_ring hW hl0A).1)) dX2_setPlace_1 ?_
  refine wk_iload_n C dX2_setPlace_4 rfl rfl ?_
  refine wk_iload_n C dX2_setPlace_5 rfl rfl ?_
  obtain ⟨i1, h⟩ := h
  obtain ⟨S2, eS2, h⟩ := wkLt_some h
  refine wk_iast C (wf_Drawings_ring hW hl0A).2.1 (wf_Drawings_ring hW hl0A).2.2 i1 eS2.symm dX2_setPlace_6 ?_
  have hWS2 : wkWF S2 := by rw [eS2]; exact hW
  have hXS2 : wkExt S S2 := by rw [eS2]; exact wkExt.rf
  refine wk_aload_n C dX2_setPlace_7 rfl rfl ?_
  refine wk_get C huX2_setPlace_2 (hXS2 _ _ hl0A).1 (fun cy => wAt_2 cy _ (hXS2 _ _ hl0A).2) rfl 5 (by decide) (List.mem_of_getElem? (i := 2) rfl) rfl (congrArg some (congrArg va_rf (wf_Drawings_spot hWS2 (hXS2 _ _ hl0A)).1)) dX2_setPlace_8 ?_
  refine wk_aload_n C dX2_setPlace_11 rfl rfl ?_
  refine wk_get C huX2_setPlace_2 (hXS2 _ _ hl0A).1 (fun cy => wAt_2 cy _ (hXS2 _ _ hl0A).2) rfl 3 (by decide) (List.mem_of_getElem? (i := 3) rfl) rfl (congrArg some (congrArg va_rf (wf_Drawings_owner hWS2 (hXS2 _ _ hl0A)).1)) dX2_setPlace_12 ?_
  refine wk_iload_n C dX2_setPlace_15 rfl rfl ?_
  obtain ⟨i3, h⟩ := h
  refine wk_iald C (wf_Drawings_owner hWS2 (hXS2 _ _ hl0A)).2.1 (wf_Drawings_owner hWS2 (hXS2 _ _ hl0A)).2.2 i3 rfl dX2_setPlace_16 ?_
  refine wk_bipush C (v := 7) dX2_setPlace_17 (by decide) ?_
  refine wk_imul C dX2_setPlace_19 rfl ?_
  refine wk_iload_n C dX2_setPlace_20 rfl rfl ?_
  refine wk_iadd C dX2_setPlace_21 rfl ?_
  refine wk_iload_n C dX2_setPlace_22 rfl rfl ?_
  obtain ⟨i4, h⟩ := h
  obtain ⟨S5, eS5, h⟩ := wkLt_some h
  refine wk_iast C (wf_Drawings_spot hWS2 (hXS2 _ _ hl0A)).2.1 (wf_Drawings_spot hWS2 (hXS2 _ _ hl0A)).2.2 i4 eS5.symm dX2_setPlace_23 ?_
  have hWS5 : wkWF S5 := by rw [eS5]; exact hWS2
  have hXS5 : wkExt S2 S5 := by rw [eS5]; exact wkExt.rf
  exact E _ _ _ _ _ (Nat.le_refl 0) (Nat.le_refl 0) dX2_setPlace_24 ⟨(), rfl, h, hWS5, (wkExt.tr (wkExt.tr hE hXS2) hXS5)⟩
def wvX3_begin : List Cond := .code yX3_begin cX3_begin 4 none :: (([.fieldLink RX3 39 "Witnessworks$Entry" "kind" "I", .fieldLink RX3 42 "Witnessworks$Entry" "size" "I", .fieldLink RX3 45 "Witnessworks$Entry" "bound" "I", .fieldLink RX3 48 "Witnessworks$Entry" "boundNow" "I", .fieldLink RX3 9 "Witnessworks$Entry" "leaning" "I", .fieldLink RX3 51 "Witnessworks$Entry" "plus" "I", .fieldLink RX3 15 "Witnessworks$Entry" "origin" "I", .fieldLink RX3 54 "Witnessworks$Entry" "itemCount" "I", .fieldLink RX3 57 "Witnessworks$Entry" "isSolved" "Z", .fieldLink RX3 61 "Witnessworks$Entry" "wasSettled" "Z"] : List Cond) ++ ((wsX30) ++ ([])))
theorem huX3_begin_3 : ∀ w ∈ u_ws RX3 TX3 17, w ∈ wvX3_begin := fun w h => List.mem_cons_of_mem _ (List.mem_append_right _ (List.mem_append_left _ h))
theorem gdX3_begin : ∀ w ∈ wvX3_begin, wkGd w := wkGdC rfl (wkGdA (wkGdL (by decide +kernel)) (wkGdA gdX3 (fun _ h => absurd h List.not_mem_nil)))
def rX3_begin (F : Nat) (l0A : Nat) (l1I : Int32) (l2I : Int32) (l3I : Int32) (S : wPS) (Φ : (Unit → wPS → Prop)) : Prop :=
  wkLt (wu_Entry_kind S l0A l1I) fun S1 => wkLt (wu_Entry_size S1 l0A l2I) fun S2 => wkLt (wu_Entry_bound S2 l0A l3I) fun S3 => wkLt (wu_Entry_boundNow S3 l0A l3I) fun S4 => wkLt (wu_Entry_leaning S4 l0A (-1 : Int32)) fun S5 => wkLt (wu_Entry_plus S5 l0A (0 : Int32)) fun S6 => wkLt (wu_Entry_origin S6 l0A (-1 : Int32)) fun S7 => wkLt (wu_Entry_itemCount S7 l0A (0 : Int32)) fun S8 => wkLt (wu_Entry_isSolved S8 l0A (0 : Int32)) fun S9 => wkLt (wu_Entry_wasSettled S9 l0A (0 : Int32)) fun S10 => Φ () S10
set_option maxHeartbeats 4000000 in
set_option maxRecDepth 100000 in
theorem tX3_begin {l : Launch} {g : wkG} {F : Nat}  {S : wPS} {l0A : Nat} {l1I : Int32} {l2I : Int32} {l3I : Int32} {Φ : (Unit → wPS → Prop)} (hW : wkWF S) (hl0A : wkIs S l0A 3) (h : rX3_begin F l0A l1I l2I l3I S Φ) : wkMet l g yX3_begin wvX3_begin 0 0 0 [.ref l0A, .int l1I, .int l2I, .int l3I] S (fun v' S'' => ∃ v : Unit, v' = none ∧ Φ v S'' ∧ wkWF S'' ∧ wkExt S S'') := by
  refine wkMet_of (ret := none) (by decide) rfl (Nat.le_of_ble_eq_true rfl) (fun X hg C hR E => ?_)
  subst hg
  have hE : wkExt S S := wkExt.rf
  have hd : 0 ≤ 0 := Nat.le_refl _
  show wkGo l X 4 0 0 0 S [some (.ref l0A), some (.int l1I), some (.int l2I), some (.int l3I)] []
  unfold rX3_begin at h
  refine wk_aload_n C dX3_begin_0 rfl rfl ?_
  refine wk_iload_n C dX3_begin_1 rfl rfl ?_
  obtain ⟨S1, eS1, h⟩ := wkLt_some h
  refine wk_put C (S' := S1) huX3_begin_3 hl0A.1 (fun cy => wAt_3 cy _ hl0A.2) rfl 0 (by decide) (List.mem_of_getElem? (i := 1) rfl) rfl tyX3_ok nmX3 rfl (ty := .int) rfl rfl rfl (by show 0 < 17; decide) (fun cy b => by rw [eS1]; exact wSt_3_0 cy _ hl0A.2 _ b) (by rw [eS1]) dX3_begin_2 ?_
  have hWS1 : wkWF S1 := by rw [eS1]; exact hW
  have hXS1 : wkExt S S1 := by rw [eS1]; exact wkExt.rf
  refine wk_aload_n C dX3_begin_5 rfl rfl ?_
  refine wk_iload_n C dX3_begin_6 rfl rfl ?_
  obtain ⟨S2, eS2, h⟩ := wkLt_some h
  refine wk_put C (S' := S2) huX3_begin_3 (hXS1 _ _ hl0A).1 (fun cy => wAt_3 cy _ (hXS1 _ _ hl0A).2) rfl 1 (by decide) (List.mem_of_getElem? (i := 2) rfl) rfl tyX3_ok nmX3 rfl (ty := .int) rfl rfl rfl (by show 1 < 17; decide) (fun cy b => by rw [eS2]; exact wSt_3_1 cy _ (hXS1 _ _ hl0A).2 _ b) (by rw [eS2]) dX3_begin_7 ?_
  have hWS2 : wkWF S2 := by rw [eS2]; exact hWS1
  have hXS2 : wkExt S1 S2 := by rw [eS2]; exact wkExt.rf
  refine wk_aload_n C dX3_begin_10 rfl rfl ?_
  refine wk_iload_n C dX3_begin_11 rfl rfl ?_
  obtain ⟨S3, eS3, h⟩ := wkLt_some h
  refine wk_put C (S' := S3) huX3_begin_3 (hXS2 _ _ (hXS1 _ _ hl0A)).1 (fun cy => wAt_3 cy _ (hXS2 _ _ (hXS1 _ _ hl0A)).2) rfl 2 (by decide) (List.mem_of_getElem? (i := 3) rfl) rfl tyX3_ok nmX3 rfl (ty := .int) rfl rfl rfl (by show 2 < 17; decide) (fun cy b => by rw [eS3]; exact wSt_3_2 cy _ (hXS2 _ _ (hXS1 _ _ hl0A)).2 _ b) (by rw [eS3]) dX3_begin_12 ?_
  have hWS3 : wkWF S3 := by rw [eS3]; exact hWS2
  have hXS3 : wkExt S2 S3 := by rw [eS3]; exact wkExt.rf
  refine wk_aload_n C dX3_begin_15 rfl rfl ?_
  refine wk_iload_n C dX3_begin_16 rfl rfl ?_
  obtain ⟨S4, eS4, h⟩ := wkLt_some h
  refine wk_put C (S' := S4) huX3_begin_3 (hXS3 _ _ (hXS2 _ _ (hXS1 _ _ hl0A))).1 (fun cy => wAt_3 cy _ (hXS3 _ _ (hXS2 _ _ (hXS1 _ _ hl0A))).2) rfl 8 (by decide) (List.mem_of_getElem? (i := 4) rfl) rfl tyX3_ok nmX3 rfl (ty := .int) rfl rfl rfl (by show 8 < 17; decide) (fun cy b => by rw [eS4]; exact wSt_3_8 cy _ (hXS3 _ _ (hXS2 _ _ (hXS1 _ _ hl0A))).2 _ b) (by rw [eS4]) dX3_begin_17 ?_
  have hWS4 : wkWF S4 := by rw [eS4]; exact hWS3
  have hXS4 : wkExt S3 S4 := by rw [eS4]; exact wkExt.rf
  refine wk_aload_n C dX3_begin_20 rfl rfl ?_
  refine wk_iconst C (v := (-1)) dX3_begin_21 (by decide) ?_
  obtain ⟨S5, eS5, h⟩ := wkLt_some h
  refine wk_put C (S' := S5) huX3_begin_3 (hXS4 _ _ (hXS3 _ _ (hXS2 _ _ (hXS1 _ _ hl0A)))).1 (fun cy => wAt_3 cy _ (hXS4 _ _ (hXS3 _ _ (hXS2 _ _ (hXS1 _ _ hl0A)))).2) rfl 3 (by decide) (List.mem_of_getElem? (i := 5) rfl) rfl tyX3_ok nmX3 rfl (ty := .int) rfl rfl rfl (by show 3 < 17; decide) (fun cy b => by rw [eS5]; exact wSt_3_3 cy _ (hXS4 _ _ (hXS3 _ _ (hXS2 _ _ (hXS1 _ _ hl0A)))).2 _ b) (by rw [eS5]) dX3_begin_22 ?_
  have hWS5 : wkWF S5 := by rw [eS5]; exact hWS4
  have hXS5 : wkExt S4 S5 := by rw [eS5]; exact wkExt.rf
  refine wk_aload_n C dX3_begin_25 rfl rfl ?_
  refine wk_iconst C (v := 0) dX3_begin_26 (by decide) ?_
  obtain ⟨S6, eS6, h⟩ := wkLt_some h
  refine wk_put C (S' := S6) huX3_begin_3 (hXS5 _ _ (hXS4 _ _ (hXS3 _ _ (hXS2 _ _ (hXS1 _ _ hl0A))))).1 (fun cy => wAt_3 cy _ (hXS5 _ _ (hXS4 _ _ (hXS3 _ _ (hXS2 _ _ (hXS1 _ _ hl0A))))).2) rfl 4 (by decide) (List.mem_of_getElem? (i := 6) rfl) rfl tyX3_ok nmX3 rfl (ty := .int) rfl rfl rfl (by show 4 < 17; decide) (fun cy b => by rw [eS6]; exact wSt_3_4 cy _ (hXS5 _ _ (hXS4 _ _ (hXS3 _ _ (hXS2 _ _ (hXS1 _ _ hl0A))))).2 _ b) (by rw [eS6]) dX3_begin_27 ?_
  have hWS6 : wkWF S6 := by rw [eS6]; exact hWS5
  have hXS6 : wkExt S5 S6 := by rw [eS6]; exact wkExt.rf
  refine wk_aload_n C dX3_begin_30 rfl rfl ?_
  refine wk_iconst C (v := (-1)) dX3_begin_31 (by decide) ?_
  obtain ⟨S7, eS7, h⟩ := wkLt_some h
  refine wk_put C (S' := S7) huX3_begin_3 (hXS6 _ _ (hXS5 _ _ (hXS4 _ _ (hXS3 _ _ (hXS2 _ _ (hXS1 _ _ hl0A)))))).1 (fun cy => wAt_3 cy _ (hXS6 _ _ (hXS5 _ _ (hXS4 _ _ (hXS3 _ _ (hXS2 _ _ (hXS1 _ _ hl0A)))))).2) rfl 5 (by decide) (List.mem_of_getElem? (i := 7) rfl) rfl tyX3_ok nmX3 rfl (ty := .int) rfl rfl rfl (by show 5 < 17; decide) (fun cy b => by rw [eS7]; exact wSt_3_5 cy _ (hXS6 _ _ (hXS5 _ _ (hXS4 _ _ (hXS3 _ _ (hXS2 _ _ (hXS1 _ _ hl0A)))))).2 _ b) (by rw [eS7]) dX3_begin_32 ?_
  have hWS7 : wkWF S7 := by rw [eS7]; exact hWS6
  have hXS7 : wkExt S6 S7 := by rw [eS7]; exact wkExt.rf
  refine wk_aload_n C dX3_begin_35 rfl rfl ?_
  refine wk_iconst C (v := 0) dX3_begin_36 (by decide) ?_
  obtain ⟨S8, eS8, h⟩ := wkLt_some h
  refine wk_put C (S' := S8) huX3_begin_3 (hXS7 _ _ (hXS6 _ _ (hXS5 _ _ (hXS4 _ _ (hXS3 _ _ (hXS2 _ _ (hXS1 _ _ hl0A))))))).1 (fun cy => wAt_3 cy _ (hXS7 _ _ (hXS6 _ _ (hXS5 _ _ (hXS4 _ _ (hXS3 _ _ (hXS2 _ _ (hXS1 _ _ hl0A))))))).2) rfl 6 (by decide) (List.mem_of_getElem? (i := 8) rfl) rfl tyX3_ok nmX3 rfl (ty := .int) rfl rfl rfl (by show 6 < 17; decide) (fun cy b => by rw [eS8]; exact wSt_3_6 cy _ (hXS7 _ _ (hXS6 _ _ (hXS5 _ _ (hXS4 _ _ (hXS3 _ _ (hXS2 _ _ (hXS1 _ _ hl0A))))))).2 _ b) (by rw [eS8]) dX3_begin_37 ?_
  have hWS8 : wkWF S8 := by rw [eS8]; exact hWS7
  have hXS8 : wkExt S7 S8 := by rw [eS8]; exact wkExt.rf
  refine wk_aload_n C dX3_begin_40 rfl rfl ?_
  refine wk_iconst C (v := 0) dX3_begin_41 (by decide) ?_
  obtain ⟨S9, eS9, h⟩ := wkLt_some h
  refine wk_put C (S' := S9) huX3_begin_3 (hXS8 _ _ (hXS7 _ _ (hXS6 _ _ (hXS5 _ _ (hXS4 _ _ (hXS3 _ _ (hXS2 _ _ (hXS1 _ _ hl0A)))))))).1 (fun cy => wAt_3 cy _ (hXS8 _ _ (hXS7 _ _ (hXS6 _ _ (hXS5 _ _ (hXS4 _ _ (hXS3 _ _ (hXS2 _ _ (hXS1 _ _ hl0A)))))))).2) rfl 9 (by decide) (List.mem_of_getElem? (i := 9) rfl) rfl tyX3_ok nmX3 rfl (ty := .boolean) rfl rfl rfl (by show 9 < 17; decide) (fun cy b => by rw [eS9]; exact wSt_3_9 cy _ (hXS8 _ _ (hXS7 _ _ (hXS6 _ _ (hXS5 _ _ (hXS4 _ _ (hXS3 _ _ (hXS2 _ _ (hXS1 _ _ hl0A)))))))).2 _ b) (by rw [eS9]) dX3_begin_42 ?_
  have hWS9 : wkWF S9 := by rw [eS9]; exact hWS8
  have hXS9 : wkExt S8 S9 := by rw [eS9]; exact wkExt.rf
  refine wk_aload_n C dX3_begin_45 rfl rfl ?_
  refine wk_iconst C (v := 0) dX3_begin_46 (by decide) ?_
  obtain ⟨S10, eS10, h⟩ := wkLt_some h
  refine wk_put C (S' := S10) huX3_begin_3 (hXS9 _ _ (hXS8 _ _ (hXS7 _ _ (hXS6 _ _ (hXS5 _ _ (hXS4 _ _ (hXS3 _ _ (hXS2 _ _ (hXS1 _ _ hl0A))))))))).1 (fun cy => wAt_3 cy _ (hXS9 _ _ (hXS8 _ _ (hXS7 _ _ (hXS6 _ _ (hXS5 _ _ (hXS4 _ _ (hXS3 _ _ (hXS2 _ _ (hXS1 _ _ hl0A))))))))).2) rfl 14 (by decide) (List.mem_of_getElem? (i := 10) rfl) rfl tyX3_ok nmX3 rfl (ty := .boolean) rfl rfl rfl (by show 14 < 17; decide) (fun cy b => by rw [eS10]; exact wSt_3_14 cy _ (hXS9 _ _ (hXS8 _ _ (hXS7 _ _ (hXS6 _ _ (hXS5 _ _ (hXS4 _ _ (hXS3 _ _ (hXS2 _ _ (hXS1 _ _ hl0A))))))))).2 _ b) (by rw [eS10]) dX3_begin_47 ?_
  have hWS10 : wkWF S10 := by rw [eS10]; exact hWS9
  have hXS10 : wkExt S9 S10 := by rw [eS10]; exact wkExt.rf
  exact E _ _ _ _ _ (Nat.le_refl 0) (Nat.le_refl 0) dX3_begin_50 ⟨(), rfl, h, hWS10, (wkExt.tr (wkExt.tr (wkExt.tr (wkExt.tr (wkExt.tr (wkExt.tr (wkExt.tr (wkExt.tr (wkExt.tr (wkExt.tr hE hXS1) hXS2) hXS3) hXS4) hXS5) hXS6) hXS7) hXS8) hXS9) hXS10)⟩
