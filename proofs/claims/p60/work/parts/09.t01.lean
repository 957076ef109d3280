def wvX1_init : List Cond := .code yX1_init cX1_init 1 none :: (([.methodLink RX1 3 objectInit, .instanceMethod objectInit, .code objectInit ⟨#[0xb1]⟩ 1 none, .arrayClass .int, .fieldLink RX1 9 "Witnessworks$Clauses" "stack" "[I", .fieldLink RX1 15 "Witnessworks$Clauses" "codes" "[I"] : List Cond) ++ ((wsX10) ++ ([])))
theorem huX1_init_1 : ∀ w ∈ u_ws RX1 TX1 7, w ∈ wvX1_init := fun w h => List.mem_cons_of_mem _ (List.mem_append_right _ (List.mem_append_left _ h))
theorem gdX1_init : ∀ w ∈ wvX1_init, wkGd w := wkGdC rfl (wkGdA (wkGdL (by decide +kernel)) (wkGdA gdX1 (fun _ h => absurd h List.not_mem_nil)))
def rX1_init (F : Nat) (k n : Nat) (l0A : Nat) (S : wPS) (Φ : (Unit → wPS → Prop)) : Prop :=
  ¬ (8 : Int32) < 0 ∧ 0 + 1 ≤ k ∧ 0 + ((8 : Int32)).toNatClampNeg ≤ n ∧ ((8 : Int32)).toNatClampNeg * 4 ≤ 536870912 ∧ ∀ q2 : Nat, ¬ q2 ∈ S.L → wkLt (wnI S q2 13 ((8 : Int32)).toNatClampNeg (fun _ => 0)) fun S3 => wkLt (wu_Clauses_stack S3 l0A (some q2)) fun S4 => ¬ (128 : Int32) < 0 ∧ (0 + 1) + 1 ≤ k ∧ (0 + ((8 : Int32)).toNatClampNeg) + ((128 : Int32)).toNatClampNeg ≤ n ∧ ((128 : Int32)).toNatClampNeg * 4 ≤ 536870912 ∧ ∀ q6 : Nat, ¬ q6 ∈ S4.L → wkLt (wnI S4 q6 13 ((128 : Int32)).toNatClampNeg (fun _ => 0)) fun S7 => wkLt (wu_Clauses_codes S7 l0A (some q6)) fun S8 => Φ () S8
set_option maxHeartbeats 4000000 in
set_option maxRecDepth 100000 in
theorem tX1_init {l : Launch} {g : wkG} {F : Nat} {k n : Nat}  {S : wPS} {l0A : Nat} {Φ : (Unit → wPS → Prop)} (hW : wkTT S) (hl0A : wkIs S l0A 1) (h : rX1_init F k n l0A S Φ) : wkMet l g yX1_init wvX1_init 1 k n [.ref l0A] S (fun v' S'' => ∃ v : Unit, v' = none ∧ Φ v S'' ∧ wkTT S'' ∧ wkExt S S'') := by
  refine wkMet_ofI (ret := none) (plainFor_of_name (by decide)) rfl rfl (Nat.le_of_ble_eq_true rfl) (fun X hg C hR hI0 E => ?_)
  subst hg
  have hE : wkExt S S := wkExt.rf
  have hd : 1 ≤ 1 := Nat.le_refl _
  show wkGo l X 1 0 0 0 S [some (.ref l0A)] []
  unfold rX1_init at h
  refine wk_aload_n C dX1_init_0 rfl rfl ?_
  refine wk_objInit C hR (List.mem_of_getElem? (i := 1) rfl) (List.mem_of_getElem? (i := 2) rfl) (List.mem_of_getElem? (i := 3) rfl) (Nat.le_trans (by decide) hd) (Nat.le_of_ble_eq_true rfl) dX1_init_1 ?_
  refine wk_aload_n C dX1_init_4 rfl rfl ?_
  refine wk_bipush C (v := 8) dX1_init_5 (by decide) ?_
  obtain ⟨h1a, h1b, h1c, h1d, h⟩ := h
  refine wk_newI C hR (List.mem_of_getElem? (i := 4) rfl) h1a h1b h1c h1d dX1_init_7 (fun q2 h1e => ?_)
  obtain ⟨S3, eS3, h⟩ := wkLt_some (h q2 h1e)
  rw [← eS3]
  obtain ⟨hXS3, hIS3⟩ := wkExt_newI eS3 h1e
  have hWS3 : wkTT S3 := trivial
  obtain ⟨S4, eS4, h⟩ := wkLt_some h
  refine wk_putF C hI0 (S' := S4) huX1_init_1 (hXS3 _ _ hl0A).1 (fun cy => wAt_1 cy _ (hXS3 _ _ hl0A).2) rfl 0 (by decide) (List.mem_of_getElem? (i := 5) rfl) rfl tyX1_ok nmX1 rfl rfl (ty := (.array .int)) rfl rfl rfl (by show 0 < 7; decide) (fun cy b => by rw [eS4]; exact wSt_1_0 cy _ (hXS3 _ _ hl0A).2 (some q2) b) (by rw [eS4]) dX1_init_9 ?_
  have hWS4 : wkTT S4 := trivial
  have hXS4 : wkExt S3 S4 := by rw [eS4]; exact wkExt.rf
  refine wk_aload_n C dX1_init_12 rfl rfl ?_
  refine wk_sipush C (v := 128) dX1_init_13 (by decide) ?_
  obtain ⟨h5a, h5b, h5c, h5d, h⟩ := h
  refine wk_newI C hR (List.mem_of_getElem? (i := 4) rfl) h5a h5b h5c h5d dX1_init_16 (fun q6 h5e => ?_)
  obtain ⟨S7, eS7, h⟩ := wkLt_some (h q6 h5e)
  rw [← eS7]
  obtain ⟨hXS7, hIS7⟩ := wkExt_newI eS7 h5e
  have hWS7 : wkTT S7 := trivial
  obtain ⟨S8, eS8, h⟩ := wkLt_some h
  refine wk_putF C hI0 (S' := S8) huX1_init_1 (hXS7 _ _ (hXS4 _ _ (hXS3 _ _ hl0A))).1 (fun cy => wAt_1 cy _ (hXS7 _ _ (hXS4 _ _ (hXS3 _ _ hl0A))).2) rfl 1 (by decide) (List.mem_of_getElem? (i := 6) rfl) rfl tyX1_ok nmX1 rfl rfl (ty := (.array .int)) rfl rfl rfl (by show 1 < 7; decide) (fun cy b => by rw [eS8]; exact wSt_1_1 cy _ (hXS7 _ _ (hXS4 _ _ (hXS3 _ _ hl0A))).2 (some q6) b) (by rw [eS8]) dX1_init_18 ?_
  have hWS8 : wkTT S8 := trivial
  have hXS8 : wkExt S7 S8 := by rw [eS8]; exact wkExt.rf
  exact E _ _ _ _ _ h5b h5c dX1_init_21 ⟨(), rfl, h, hWS8, (wkExt.tr (wkExt.tr (wkExt.tr (wkExt.tr hE hXS3) hXS4) hXS7) hXS8)⟩
def wvX1_begin : List Cond := .code yX1_begin cX1_begin 1 none :: (([.fieldLink RX1 44 "Witnessworks$Clauses" "depth" "I", .fieldLink RX1 47 "Witnessworks$Clauses" "ones" "I", .fieldLink RX1 88 "Witnessworks$Clauses" "isAtEnd" "Z", .fieldLink RX1 92 "Witnessworks$Clauses" "codeCount" "I", .fieldLink RX1 95 "Witnessworks$Clauses" "stackCount" "I"] : List Cond) ++ ((wsX10) ++ ([])))
theorem huX1_begin_1 : ∀ w ∈ u_ws RX1 TX1 7, w ∈ wvX1_begin := fun w h => List.mem_cons_of_mem _ (List.mem_append_right _ (List.mem_append_left _ h))
theorem gdX1_begin : ∀ w ∈ wvX1_begin, wkGd w := wkGdC rfl (wkGdA (wkGdL (by decide +kernel)) (wkGdA gdX1 (fun _ h => absurd h List.not_mem_nil)))
def rX1_begin (F : Nat) (l0A : Nat) (S : wPS) (Φ : (Unit → wPS → Prop)) : Prop :=
  wkLt (wu_Clauses_depth S l0A (0 : Int32)) fun S1 => wkLt (wu_Clauses_ones S1 l0A (0 : Int32)) fun S2 => wkLt (wu_Clauses_isAtEnd S2 l0A (0 : Int32)) fun S3 => wkLt (wu_Clauses_codeCount S3 l0A (0 : Int32)) fun S4 => wkLt (wu_Clauses_stackCount S4 l0A (0 : Int32)) fun S5 => Φ () S5
set_option maxHeartbeats 4000000 in
set_option maxRecDepth 100000 in
theorem tX1_begin {l : Launch} {g : wkG} {F : Nat}  {S : wPS} {l0A : Nat} {Φ : (Unit → wPS → Prop)} (hW : wkWF S) (hl0A : wkIs S l0A 1) (h : rX1_begin F l0A S Φ) : wkMet l g yX1_begin wvX1_begin 0 0 0 [.ref l0A] S (fun v' S'' => ∃ v : Unit, v' = none ∧ Φ v S'' ∧ wkWF S'' ∧ wkExt S S'') := by
  refine wkMet_of (ret := none) (by decide) rfl (Nat.le_of_ble_eq_true rfl) (fun X hg C hR E => ?_)
  subst hg
  have hE : wkExt S S := wkExt.rf
  have hd : 0 ≤ 0 := Nat.le_refl _
  show wkGo l X 1 0 0 0 S [some (.ref l0A)] []
  unfold rX1_begin at h
  refine wk_aload_n C dX1_begin_0 rfl rfl ?_
  refine wk_iconst C (v := 0) dX1_begin_1 (by decide) ?_
  obtain ⟨S1, eS1, h⟩ := wkLt_some h
  refine wk_put C (S' := S1) huX1_begin_1 hl0A.1 (fun cy => wAt_1 cy _ hl0A.2) rfl 4 (by decide) (List.mem_of_getElem? (i := 1) rfl) rfl tyX1_ok nmX1 rfl (ty := .int) rfl rfl rfl (by show 4 < 7; decide) (fun cy b => by rw [eS1]; exact wSt_1_4 cy _ hl0A.2 _ b) (by rw [eS1]) dX1_begin_2 ?_
  have hWS1 : wkWF S1 := by rw [eS1]; exact hW
  have hXS1 : wkExt S S1 := by rw [eS1]; exact wkExt.rf
  refine wk_aload_n C dX1_begin_5 rfl rfl ?_
  refine wk_iconst C (v := 0) dX1_begin_6 (by decide) ?_
  obtain ⟨S2, eS2, h⟩ := wkLt_some h
  refine wk_put C (S' := S2) huX1_begin_1 (hXS1 _ _ hl0A).1 (fun cy => wAt_1 cy _ (hXS1 _ _ hl0A).2) rfl 5 (by decide) (List.mem_of_getElem? (i := 2) rfl) rfl tyX1_ok nmX1 rfl (ty := .int) rfl rfl rfl (by show 5 < 7; decide) (fun cy b => by rw [eS2]; exact wSt_1_5 cy _ (hXS1 _ _ hl0A).2 _ b) (by rw [eS2]) dX1_begin_7 ?_
  have hWS2 : wkWF S2 := by rw [eS2]; exact hWS1
  have hXS2 : wkExt S1 S2 := by rw [eS2]; exact wkExt.rf
  refine wk_aload_n C dX1_begin_10 rfl rfl ?_
  refine wk_iconst C (v := 0) dX1_begin_11 (by decide) ?_
  obtain ⟨S3, eS3, h⟩ := wkLt_some h
  refine wk_put C (S' := S3) huX1_begin_1 (hXS2 _ _ (hXS1 _ _ hl0A)).1 (fun cy => wAt_1 cy _ (hXS2 _ _ (hXS1 _ _ hl0A)).2) rfl 6 (by decide) (List.mem_of_getElem? (i := 3) rfl) rfl tyX1_ok nmX1 rfl (ty := .boolean) rfl rfl rfl (by show 6 < 7; decide) (fun cy b => by rw [eS3]; exact wSt_1_6 cy _ (hXS2 _ _ (hXS1 _ _ hl0A)).2 _ b) (by rw [eS3]) dX1_begin_12 ?_
  have hWS3 : wkWF S3 := by rw [eS3]; exact hWS2
  have hXS3 : wkExt S2 S3 := by rw [eS3]; exact wkExt.rf
  refine wk_aload_n C dX1_begin_15 rfl rfl ?_
  refine wk_iconst C (v := 0) dX1_begin_16 (by decide) ?_
  obtain ⟨S4, eS4, h⟩ := wkLt_some h
  refine wk_put C (S' := S4) huX1_begin_1 (hXS3 _ _ (hXS2 _ _ (hXS1 _ _ hl0A))).1 (fun cy => wAt_1 cy _ (hXS3 _ _ (hXS2 _ _ (hXS1 _ _ hl0A))).2) rfl 2 (by decide) (List.mem_of_getElem? (i := 4) rfl) rfl tyX1_ok nmX1 rfl (ty := .int) rfl rfl rfl (by show 2 < 7; decide) (fun cy b => by rw [eS4]; exact wSt_1_2 cy _ (hXS3 _ _ (hXS2 _ _ (hXS1 _ _ hl0A))).2 _ b) (by rw [eS4]) dX1_begin_17 ?_
  have hWS4 : wkWF S4 := by rw [eS4]; exact hWS3
  have hXS4 : wkExt S3 S4 := by rw [eS4]; exact wkExt.rf
  refine wk_aload_n C dX1_begin_20 rfl rfl ?_
  refine wk_iconst C (v := 0) dX1_begin_21 (by decide) ?_
  obtain ⟨S5, eS5, h⟩ := wkLt_some h
  refine wk_put C (S' := S5) huX1_begin_1 (hXS4 _ _ (hXS3 _ _ (hXS2 _ _ (hXS1 _ _ hl0A)))).1 (fun cy => wAt_1 cy _ (hXS4 _ _ (hXS3 _ _ (hXS2 _ _ (hXS1 _ _ hl0A)))).2) rfl 3 (by decide) (List.mem_of_getElem? (i := 5) rfl) rfl tyX1_ok nmX1 rfl (ty := .int) rfl rfl rfl (by show 3 < 7; decide) (fun cy b => by rw [eS5]; exact wSt_1_3 cy _ (hXS4 _ _ (hXS3 _ _ (hXS2 _ _ (hXS1 _ _ hl0A)))).2 _ b) (by rw [eS5]) dX1_begin_22 ?_
  have hWS5 : wkWF S5 := by rw [eS5]; exact hWS4
  have hXS5 : wkExt S4 S5 := by rw [eS5]; exact wkExt.rf
  exact E _ _ _ _ _ (Nat.le_refl 0) (Nat.le_refl 0) dX1_begin_25 ⟨(), rfl, h, hWS5, (wkExt.tr (wkExt.tr (wkExt.tr (wkExt.tr (wkExt.tr hE hXS1) hXS2) hXS3) hXS4) hXS5)⟩
def wvX1_derive : List Cond := .code yX1_derive cX1_derive 2 none :: (([.fieldLink RX1 92 "Witnessworks$Clauses" "codeCount" "I", .fieldLink RX1 95 "Witnessworks$Clauses" "stackCount" "I", .fieldLink RX1 9 "Witnessworks$Clauses" "stack" "[I", .fieldLink RX1 15 "Witnessworks$Clauses" "codes" "[I"] : List Cond) ++ ((wsX10) ++ ([])))
theorem huX1_derive_1 : ∀ w ∈ u_ws RX1 TX1 7, w ∈ wvX1_derive := fun w h => List.mem_cons_of_mem _ (List.mem_append_right _ (List.mem_append_left _ h))
theorem gdX1_derive : ∀ w ∈ wvX1_derive, wkGd w := wkGdC rfl (wkGdA (wkGdL (by decide +kernel)) (wkGdA gdX1 (fun _ h => absurd h List.not_mem_nil)))
def rX1_derive (F : Nat) (l0A : Nat) (l1I : Int32) (S : wPS) (Φ : (Unit → wPS → Prop)) : Prop :=
  if (128 : Int32) ≤ (gClauses_codeCount S l0A) then (if (Int32.ofNat (S.len (wkAd (gClauses_stack S l0A)))) ≤ (gClauses_stackCount S l0A) then (Φ () S) else (¬ ((gClauses_stackCount S l0A) < 0 ∨ S.len (wkAd (gClauses_stack S l0A)) ≤ ((gClauses_stackCount S l0A)).toNatClampNeg) ∧ wkLt (wuI S (wkAd (gClauses_stack S l0A)) (gClauses_stackCount S l0A) l1I) fun S4 => wkLt (wu_Clauses_stackCount S4 l0A ((gClauses_stackCount S4 l0A) + (1 : Int32))) fun S5 => Φ () S5)) else (¬ ((gClauses_codeCount S l0A) < 0 ∨ S.len (wkAd (gClauses_codes S l0A)) ≤ ((gClauses_codeCount S l0A)).toNatClampNeg) ∧ wkLt (wuI S (wkAd (gClauses_codes S l0A)) (gClauses_codeCount S l0A) l1I) fun S7 => wkLt (wu_Clauses_codeCount S7 l0A ((gClauses_codeCount S7 l0A) + (1 : Int32))) fun S8 => if (Int32.ofNat (S8.len (wkAd (gClauses_stack S8 l0A)))) ≤ (gClauses_stackCount S8 l0A) then (Φ () S8) else (¬ ((gClauses_stackCount S8 l0A) < 0 ∨ S8.len (wkAd (gClauses_stack S8 l0A)) ≤ ((gClauses_stackCount S8 l0A)).toNatClampNeg) ∧ wkLt (wuI S8 (wkAd (gClauses_stack S8 l0A)) (gClauses_stackCount S8 l0A) l1I) fun S11 => wkLt (wu_Clauses_stackCount S11 l0A ((gClauses_stackCount S11 l0A) + (1 : Int32))) fun S12 => Φ () S12))
set_option maxHeartbeats 4000000 in
set_option maxRecDepth 100000 in
theorem tX1_derive {l : Launch} {g : wkG} {F : Nat}  {S : wPS} {l0A : Nat} {l1I : Int32} {Φ : (Unit → wPS → Prop)} (hW : wkWF S) (hl0A : wkIs S l0A 1) (h : rX1_derive F l0A l1I S Φ) : wkMet l g yX1_derive wvX1_derive 0 0 0 [.ref l0A, .int l1I] S (fun v' S'' => ∃ v : Unit, v' = none ∧ Φ v S'' ∧ wkWF S'' ∧ wkExt S S'') := by
  refine wkMet_of (ret := none) (by decide) rfl (Nat.le_of_ble_eq_true rfl) (fun X hg C hR E => ?_)
  subst hg
  have hE : wkExt S S := wkExt.rf
  have hd : 0 ≤ 0 := Nat.le_refl _
  show wkGo l X 2 0 0 0 S [some (.ref l0A), some (.int l1I)] []
  unfold rX1_derive at h
  refine wk_aload_n C dX1_derive_0 rfl rfl ?_
  refine wk_get C (v := .int (gClauses_codeCount S l0A)) huX1_derive_1 hl0A.1 (fun cy => wAt_1 cy _ hl0A.2) rfl 2 (by decide) (List.mem_of_getElem? (i := 1) rfl) rfl rfl dX1_derive_1 ?_
  refine wk_sipush C (v := 128) dX1_derive_4 (by decide) ?_
  refine wk_icmp_ge C (tgt := 30) dX1_derive_7 (by decide) (fun c1 => ?_) (fun c1 => ?_)
  · rw [if_pos c1] at h
    refine wk_aload_n C dX1_derive_30 rfl rfl ?_
    refine wk_get C (v := .int (gClauses_stackCount S l0A)) huX1_derive_1 hl0A.1 (fun cy => wAt_1 cy _ hl0A.2) rfl 3 (by decide) (List.mem_of_getElem? (i := 2) rfl) rfl rfl dX1_derive_31 ?_
    refine wk_aload_n C dX1_derive_34 rfl rfl ?_
    refine wk_get C huX1_derive_1 hl0A.1 (fun cy => wAt_1 cy _ hl0A.2) rfl 0 (by decide) (List.mem_of_getElem? (i := 3) rfl) rfl (congrArg some (congrArg va_rf (wf_Clauses_stack hW hl0A).1)) dX1_derive_35 ?_
    refine wk_ilen C (wf_Clauses_stack hW hl0A).2.1 (wf_Clauses_stack hW hl0A).2.2 rfl dX1_derive_38 ?_
    refine wk_icmp_ge C (tgt := 62) dX1_derive_39 (by decide) (fun c2 => ?_) (fun c2 => ?_)
    · rw [if_pos c2] at h
      exact E _ _ _ _ _ (Nat.le_refl 0) (Nat.le_refl 0) dX1_derive_62 ⟨(), rfl, h, hW, hE⟩
    · rw [if_neg c2] at h
      refine wk_aload_n C dX1_derive_42 rfl rfl ?_
      refine wk_get C huX1_derive_1 hl0A.1 (fun cy => wAt_1 cy _ hl0A.2) rfl 0 (by decide) (List.mem_of_getElem? (i := 3) rfl) rfl (congrArg some (congrArg va_rf (wf_Clauses_stack hW hl0A).1)) dX1_derive_43 ?_
      refine wk_aload_n C dX1_derive_46 rfl rfl ?_
      refine wk_get C (v := .int (gClauses_stackCount S l0A)) huX1_derive_1 hl0A.1 (fun cy => wAt_1 cy _ hl0A.2) rfl 3 (by decide) (List.mem_of_getElem? (i := 2) rfl) rfl rfl dX1_derive_47 ?_
      refine wk_iload_n C dX1_derive_50 rfl rfl ?_
      obtain ⟨i3, h⟩ := h
      obtain ⟨S4, eS4, h⟩ := wkLt_some h
      refine wk_iast C (wf_Clauses_stack hW hl0A).2.1 (wf_Clauses_stack hW hl0A).2.2 i3 eS4.symm dX1_derive_51 ?_
      have hWS4 : wkWF S4 := by rw [eS4]; exact hW
      have hXS4 : wkExt S S4 := by rw [eS4]; exact wkExt.rf
      refine wk_aload_n C dX1_derive_52 rfl rfl ?_
      refine wk_dup C dX1_derive_53 rfl ?_
      refine wk_get C (v := .int (gClauses_stackCount S4 l0A)) huX1_derive_1 (hXS4 _ _ hl0A).1 (fun cy => wAt_1 cy _ (hXS4 _ _ hl0A).2) rfl 3 (by decide) (List.mem_of_getElem? (i := 2) rfl) rfl rfl dX1_derive_54 ?_
      refine wk_iconst C (v := 1) dX1_derive_57 (by decide) ?_
      refine wk_iadd C dX1_derive_58 rfl ?_
      obtain ⟨S5, eS5, h⟩ := wkLt_some h
      refine wk_put C (S' := S5) huX1_derive_1 (hXS4 _ _ hl0A).1 (fun cy => wAt_1 cy _ (hXS4 _ _ hl0A).2) rfl 3 (by decide) (List.mem_of_getElem? (i := 2) rfl) rfl tyX1_ok nmX1 rfl (ty := .int) rfl rfl rfl (by show 3 < 7; decide) (fun cy b => by rw [eS5]; exact wSt_1_3 cy _ (hXS4 _ _ hl0A).2 _ b) (by rw [eS5]) dX1_derive_59 ?_
      have hWS5 : wkWF S5 := by rw [eS5]; exact hWS4
      have hXS5 : wkExt S4 S5 := by rw [eS5]; exact wkExt.rf
      exact E _ _ _ _ _ (Nat.le_refl 0) (Nat.le_refl 0) dX1_derive_62 ⟨(), rfl, h, hWS5, (wkExt.tr (wkExt.tr hE hXS4) hXS5)⟩
  · rw [if_neg c1] at h
    refine wk_aload_n C dX1_derive_10 rfl rfl ?_
    refine wk_get C huX1_derive_1 hl0A.1 (fun cy => wAt_1 cy _ hl0A.2) rfl 1 (by decide) (List.mem_of_getElem? (i := 4) rfl) rfl (congrArg some (congrArg va_rf (wf_Clauses_codes hW hl0A).1)) dX1_derive_11 ?_
    refine wk_aload_n C dX1_derive_14 rfl rfl ?_
    refine wk_get C (v := .int (gClauses_codeCount S l0A)) huX1_derive_1 hl0A.1 (fun cy => wAt_1 cy _ hl0A.2) rfl 2 (by decide) (List.mem_of_getElem? (i := 1) rfl) rfl rfl dX1_derive_15 ?_
    refine wk_iload_n C dX1_derive_18 rfl rfl ?_
    obtain ⟨i6, h⟩ := h
    obtain ⟨S7, eS7, h⟩ := wkLt_some h
    refine wk_iast C (wf_Clauses_codes hW hl0A).2.1 (wf_Clauses_codes hW hl0A).2.2 i6 eS7.symm dX1_derive_19 ?_
    have hWS7 : wkWF S7 := by rw [eS7]; exact hW
    have hXS7 : wkExt S S7 := by rw [eS7]; exact wkExt.rf
    refine wk_aload_n C dX1_derive_20 rfl rfl ?_
    refine wk_dup C dX1_derive_21 rfl ?_
    refine wk_get C (v := .int (gClauses_codeCount S7 l0A)) huX1_derive_1 (hXS7 _ _ hl0A).1 (fun cy => wAt_1 cy _ (hXS7 _ _ hl0A).2) rfl 2 (by decide) (List.mem_of_getElem? (i := 1) rfl) rfl rfl dX1_derive_22 ?_
    refine wk_iconst C (v := 1) dX1_derive_25 (by decide) ?_
    refine wk_iadd C dX1_derive_26 rfl ?_
    obtain ⟨S8, eS8, h⟩ := wkLt_some h
    refine wk_put C (S' := S8) huX1_derive_1 (hXS7 _ _ hl0A).1 (fun cy => wAt_1 cy _ (hXS7 _ _ hl0A).2) rfl 2 (by decide) (List.mem_of_getElem? (i := 1) rfl) rfl tyX1_ok nmX1 rfl (ty := .int) rfl rfl rfl (by show 2 < 7; decide) (fun cy b => by rw [eS8]; exact wSt_1_2 cy _ (hXS7 _ _ hl0A).2 _ b) (by rw [eS8]) dX1_derive_27 ?_
    have hWS8 : wkWF S8 := by rw [eS8]; exact hWS7
    have hXS8 : wkExt S7 S8 := by rw [eS8]; exact wkExt.rf
    refine wk_aload_n C dX1_derive_30 rfl rfl ?_
    refine wk_get C (v := .int (gClauses_stackCount S8 l0A)) huX1_derive_1 (hXS8 _ _ (hXS7 _ _ hl0A)).1 (fun cy => wAt_1 cy _ (hXS8 _ _ (hXS7 _ _ hl0A)).2) rfl 3 (by decide) (List.mem_of_getElem? (i := 2) rfl) rfl rfl dX1_derive_31 ?_
    refine wk_aload_n C dX1_derive_34 rfl rfl ?_
    refine wk_get C huX1_derive_1 (hXS8 _ _ (hXS7 _ _ hl0A)).1 (fun cy => wAt_1 cy _ (hXS8 _ _ (hXS7 _ _ hl0A)).2) rfl 0 (by decide) (List.mem_of_getElem? (i := 3) rfl) rfl (congrArg some (congrArg va_rf (wf_Clauses_stack hWS8 (hXS8 _ _ (hXS7 _ _ hl0A))).1)) dX1_derive_35 ?_
    refine wk_ilen C (wf_Clauses_stack hWS8 (hXS8 _ _ (hXS7 _ _ hl0A))).2.1 (wf_Clauses_stack hWS8 (hXS8 _ _ (hXS7 _ _ hl0A))).2.2 rfl dX1_derive_38 ?_
    refine wk_icmp_ge C (tgt := 62) dX1_derive_39 (by decide) (fun c9 => ?_) (fun c9 => ?_)
    · rw [if_pos c9] at h
      exact E _ _ _ _ _ (Nat.le_refl 0) (Nat.le_refl 0) dX1_derive_62 ⟨(), rfl, h, hWS8, (wkExt.tr (wkExt.tr hE hXS7) hXS8)⟩
    · rw [if_neg c9] at h
      refine wk_aload_n C dX1_derive_42 rfl rfl ?_
      refine wk_get C huX1_derive_1 (hXS8 _ _ (hXS7 _ _ hl0A)).1 (fun cy => wAt_1 cy _ (hXS8 _ _ (hXS7 _ _ hl0A)).2) rfl 0 (by decide) (List.mem_of_getElem? (i := 3) rfl) rfl (congrArg some (congrArg va_rf (wf_Clauses_stack hWS8 (hXS8 _ _ (hXS7 _ _ hl0A))).1)) dX1_derive_43 ?_
      refine wk_aload_n C dX1_derive_46 rfl rfl ?_
      refine wk_get C (v := .int (gClauses_stackCount S8 l0A)) huX1_derive_1 (hXS8 _ _ (hXS7 _ _ hl0A)).1 (fun cy => wAt_1 cy _ (hXS8 _ _ (hXS7 _ _ hl0A)).2) rfl 3 (by decide) (List.mem_of_getElem? (i := 2) rfl) rfl rfl dX1_derive_47 ?_
      refine wk_iload_n C dX1_derive_50 rfl rfl ?_
      obtain ⟨i10, h⟩ := h
      obtain ⟨S11, eS11, h⟩ := wkLt_some h
      refine wk_iast C (wf_Clauses_stack hWS8 (hXS8 _ _ (hXS7 _ _ hl0A))).2.1 (wf_Clauses_stack hWS8 (hXS8 _ _ (hXS7 _ _ hl0A))).2.2 i10 eS11.symm dX1_derive_51 ?_
      have hWS11 : wkWF S11 := by rw [eS11]; exact hWS8
      have hXS11 : wkExt S8 S11 := by rw [eS11]; exact wkExt.rf
      refine wk_aload_n C dX1_derive_52 rfl rfl ?_
      refine wk_dup C dX1_derive_53 rfl ?_
      refine wk_get C (v := .int (gClauses_stackCount S11 l0A)) huX1_derive_1 (hXS11 _ _ (hXS8 _ _ (hXS7 _ _ hl0A))).1 (fun cy => wAt_1 cy _ (hXS11 _ _ (hXS8 _ _ (hXS7 _ _ hl0A))).2) rfl 3 (by decide) (List.mem_of_getElem? (i := 2) rfl) rfl rfl dX1_derive_54 ?_
      refine wk_iconst C (v := 1) dX1_derive_57 (by decide) ?_
      refine wk_iadd C dX1_derive_58 rfl ?_
      obtain ⟨S12, eS12, h⟩ := wkLt_some h
      refine wk_put C (S' := S12) huX1_derive_1 (hXS11 _ _ (hXS8 _ _ (hXS7 _ _ hl0A))).1 (fun cy => wAt_1 cy _ (hXS11 _ _ (hXS8 _ _ (hXS7 _ _ hl0A))).2) rfl 3 (by decide) (List.mem_of_getElem? (i := 2) rfl) rfl tyX1_ok nmX1 rfl (ty := .int) rfl rfl rfl (by show 3 < 7; decide) (fun cy b => by rw [eS12]; exact wSt_1_3 cy _ (hXS11 _ _ (hXS8 _ _ (hXS7 _ _ hl0A))).2 _ b) (by rw [eS12]) dX1_derive_59 ?_
      have hWS12 : wkWF S12 := by rw [eS12]; exact hWS11
      have hXS12 : wkExt S11 S12 := by rw [eS12]; exact wkExt.rf
      exact E _ _ _ _ _ (Nat.le_refl 0) (Nat.le_refl 0) dX1_derive_62 ⟨(), rfl, h, hWS12, (wkExt.tr (wkExt.tr (wkExt.tr (wkExt.tr hE hXS7) hXS8) hXS11) hXS12)⟩
def wvX1_deriveAt : List Cond := .code yX1_deriveAt cX1_deriveAt 6 none :: (([.fieldLink RX1 95 "Witnessworks$Clauses" "stackCount" "I", .fieldLink RX1 9 "Witnessworks$Clauses" "stack" "[I", .methodLink RX1 105 yX1_derive, .instanceMethod yX1_derive, .selects RX1 yX1_derive yX1_derive, .initialized RX1] : List Cond) ++ ((wsX10) ++ (wvX1_derive)))
theorem huX1_deriveAt_1 : ∀ w ∈ u_ws RX1 TX1 7, w ∈ wvX1_deriveAt := fun w h => List.mem_cons_of_mem _ (List.mem_append_right _ (List.mem_append_left _ h))
theorem hbX1_deriveAt_X1_derive : ∀ w ∈ wvX1_derive, w ∈ wvX1_deriveAt := fun w h => List.mem_cons_of_mem _ (List.mem_append_right _ (List.mem_append_right _ h))
theorem gdX1_deriveAt : ∀ w ∈ wvX1_deriveAt, wkGd w := wkGdC rfl (wkGdA (wkGdL (by decide +kernel)) (wkGdA gdX1 gdX1_derive))
def rX1_deriveAt (F : Nat) (l0A : Nat) (l1I : Int32) (S : wPS) (Φ : (Unit → wPS → Prop)) : Prop :=
  if (2 : Int32) ≤ (gClauses_stackCount S l0A) then (¬ (((gClauses_stackCount S l0A) - (2 : Int32)) < 0 ∨ S.len (wkAd (gClauses_stack S l0A)) ≤ (((gClauses_stackCount S l0A) - (2 : Int32))).toNatClampNeg) ∧ wkLt ((S.rI (wkAd (gClauses_stack S l0A)) (((gClauses_stackCount S l0A) - (2 : Int32))).toNatClampNeg)) fun x3 => ¬ (((gClauses_stackCount S l0A) - (1 : Int32)) < 0 ∨ S.len (wkAd (gClauses_stack S l0A)) ≤ (((gClauses_stackCount S l0A) - (1 : Int32))).toNatClampNeg) ∧ wkLt ((S.rI (wkAd (gClauses_stack S l0A)) (((gClauses_stackCount S l0A) - (1 : Int32))).toNatClampNeg)) fun x5 => wkLt (((1 : Int32) <<< (l1I &&& 31))) fun x6 => wkLt (((64 : Int32) <<< (l1I &&& 31))) fun x7 => wkLt (wu_Clauses_stackCount S l0A ((gClauses_stackCount S l0A) - (2 : Int32))) fun S8 => if (x3 &&& x6) = 0 then (rX1_derive F l0A x3 S8 fun v21 S22 => Φ () S22) else (if (x5 &&& x7) = 0 then (rX1_derive F l0A x5 S8 fun v16 S17 => Φ () S17) else (rX1_derive F l0A ((x3 &&& (x6 ^^^ (-1 : Int32))) ||| (x5 &&& (x7 ^^^ (-1 : Int32)))) S8 fun v11 S12 => Φ () S12))) else (Φ () S)
set_option maxHeartbeats 4000000 in
set_option maxRecDepth 100000 in
theorem tX1_deriveAt {l : Launch} {g : wkG} {F : Nat}  {S : wPS} {l0A : Nat} {l1I : Int32} {Φ : (Unit → wPS → Prop)} (hW : wkWF S) (hl0A : wkIs S l0A 1) (h : rX1_deriveAt F l0A l1I S Φ) : wkMet l g yX1_deriveAt wvX1_deriveAt 1 0 0 [.ref l0A, .int l1I] S (fun v' S'' => ∃ v : Unit, v' = none ∧ Φ v S'' ∧ wkWF S'' ∧ wkExt S S'') := by
  refine wkMet_of (ret := none) (by decide) rfl (Nat.le_of_ble_eq_true rfl) (fun X hg C hR E => ?_)
  subst hg
  have hE : wkExt S S := wkExt.rf
  have hd : 1 ≤ 1 := Nat.le_refl _
  show wkGo l X 6 0 0 0 S [some (.ref l0A), some (.int l1I), none, none, none, none] []
  unfold rX1_deriveAt at h
  refine wk_aload_n C dX1_deriveAt_0 rfl rfl ?_
  refine wk_get C (v := .int (gClauses_stackCount S l0A)) huX1_deriveAt_1 hl0A.1 (fun cy => wAt_1 cy _ hl0A.2) rfl 3 (by decide) (List.mem_of_getElem? (i := 1) rfl) rfl rfl dX1_deriveAt_1 ?_
  refine wk_iconst C (v := 2) dX1_deriveAt_4 (by decide) ?_
  refine wk_icmp_ge C (tgt := 9) dX1_deriveAt_5 (by decide) (fun c1 => ?_) (fun c1 => ?_)
  · rw [if_pos c1] at h
    refine wk_aload_n C dX1_deriveAt_9 rfl rfl ?_
    refine wk_get C huX1_deriveAt_1 hl0A.1 (fun cy => wAt_1 cy _ hl0A.2) rfl 0 (by decide) (List.mem_of_getElem? (i := 2) rfl) rfl (congrArg some (congrArg va_rf (wf_Clauses_stack hW hl0A).1)) dX1_deriveAt_10 ?_
    refine wk_aload_n C dX1_deriveAt_13 rfl rfl ?_
    refine wk_get C (v := .int (gClauses_stackCount S l0A)) huX1_deriveAt_1 hl0A.1 (fun cy => wAt_1 cy _ hl0A.2) rfl 3 (by decide) (List.mem_of_getElem? (i := 1) rfl) rfl rfl dX1_deriveAt_14 ?_
    refine wk_iconst C (v := 2) dX1_deriveAt_17 (by decide) ?_
    refine wk_isub C dX1_deriveAt_18 rfl ?_
    obtain ⟨i2, h⟩ := h
    refine wk_iald C (wf_Clauses_stack hW hl0A).2.1 (wf_Clauses_stack hW hl0A).2.2 i2 rfl dX1_deriveAt_19 ?_
    obtain ⟨x3, ex3, h⟩ := wkLt_some h
    refine wk_topi ex3 ?_
    refine wk_istore_n C (lv' := [some (.ref l0A), some (.int l1I), some (.int x3), none, none, none]) dX1_deriveAt_20 rfl (by decide) rfl ?_
    refine wk_aload_n C dX1_deriveAt_21 rfl rfl ?_
    refine wk_get C huX1_deriveAt_1 hl0A.1 (fun cy => wAt_1 cy _ hl0A.2) rfl 0 (by decide) (List.mem_of_getElem? (i := 2) rfl) rfl (congrArg some (congrArg va_rf (wf_Clauses_stack hW hl0A).1)) dX1_deriveAt_22 ?_
    refine wk_aload_n C dX1_deriveAt_25 rfl rfl ?_
    refine wk_get C (v := .int (gClauses_stackCount S l0A)) huX1_deriveAt_1 hl0A.1 (fun cy => wAt_1 cy _ hl0A.2) rfl 3 (by decide) (List.mem_of_getElem? (i := 1) rfl) rfl rfl dX1_deriveAt_26 ?_
    refine wk_iconst C (v := 1) dX1_deriveAt_29 (by decide) ?_
    refine wk_isub C dX1_deriveAt_30 rfl ?_
    obtain ⟨i4, h⟩ := h
    refine wk_iald C (wf_Clauses_stack hW hl0A).2.1 (wf_Clauses_stack hW hl0A).2.2 i4 rfl dX1_deriveAt_31 ?_
    obtain ⟨x5, ex5, h⟩ := wkLt_some h
    refine wk_topi ex5 ?_
    refine wk_istore_n C (lv' := [some (.ref l0A), some (.int l1I), some (.int x3), some (.int x5), none, none]) dX1_deriveAt_32 rfl (by decide) rfl ?_
    refine wk_iconst C (v := 1) dX1_deriveAt_33 (by decide) ?_
    refine wk_iload_n C dX1_deriveAt_34 rfl rfl ?_
    refine wk_ishl C dX1_deriveAt_35 rfl ?_
    obtain ⟨x6, ex6, h⟩ := wkLt_some h
    refine wk_topi ex6 ?_
    refine wk_istore C (lv' := [some (.ref l0A), some (.int l1I), some (.int x3), some (.int x5), some (.int x6), none]) dX1_deriveAt_36 (by decide) rfl ?_
    refine wk_bipush C (v := 64) dX1_deriveAt_38 (by decide) ?_
    refine wk_iload_n C dX1_deriveAt_40 rfl rfl ?_
    refine wk_ishl C dX1_deriveAt_41 rfl ?_
    obtain ⟨x7, ex7, h⟩ := wkLt_some h
    refine wk_topi ex7 ?_
    refine wk_istore C (lv' := [some (.ref l0A), some (.int l1I), some (.int x3), some (.int x5), some (.int x6), some (.int x7)]) dX1_deriveAt_42 (by decide) rfl ?_
    refine wk_aload_n C dX1_deriveAt_44 rfl rfl ?_
    refine wk_dup C dX1_deriveAt_45 rfl ?_
    refine wk_get C (v := .int (gClauses_stackCount S l0A)) huX1_deriveAt_1 hl0A.1 (fun cy => wAt_1 cy _ hl0A.2) rfl 3 (by decide) (List.mem_of_getElem? (i := 1) rfl) rfl rfl dX1_deriveAt_46 ?_
    refine wk_iconst C (v := 2) dX1_deriveAt_49 (by decide) ?_
    refine wk_isub C dX1_deriveAt_50 rfl ?_
    obtain ⟨S8, eS8, h⟩ := wkLt_some h
    refine wk_put C (S' := S8) huX1_deriveAt_1 hl0A.1 (fun cy => wAt_1 cy _ hl0A.2) rfl 3 (by decide) (List.mem_of_getElem? (i := 1) rfl) rfl tyX1_ok nmX1 rfl (ty := .int) rfl rfl rfl (by show 3 < 7; decide) (fun cy b => by rw [eS8]; exact wSt_1_3 cy _ hl0A.2 _ b) (by rw [eS8]) dX1_deriveAt_51 ?_
    have hWS8 : wkWF S8 := by rw [eS8]; exact hW
    have hXS8 : wkExt S S8 := by rw [eS8]; exact wkExt.rf
    refine wk_iload_n C dX1_deriveAt_54 rfl rfl ?_
    refine wk_iload C dX1_deriveAt_55 rfl ?_
    refine wk_iand C dX1_deriveAt_57 rfl ?_
    refine wk_if_ne C (tgt := 69) dX1_deriveAt_58 (by decide) (fun c9 => ?_) (fun c9 => ?_)
    · rw [if_neg c9] at h
      refine wk_iload_n C dX1_deriveAt_69 rfl rfl ?_
      refine wk_iload C dX1_deriveAt_70 rfl ?_
      refine wk_iand C dX1_deriveAt_72 rfl ?_
      refine wk_if_ne C (tgt := 84) dX1_deriveAt_73 (by decide) (fun c10 => ?_) (fun c10 => ?_)
      · rw [if_neg c10] at h
        refine wk_aload_n C dX1_deriveAt_84 rfl rfl ?_
        refine wk_iload_n C dX1_deriveAt_85 rfl rfl ?_
        refine wk_iload C dX1_deriveAt_86 rfl ?_
        refine wk_iconst C (v := (-1)) dX1_deriveAt_88 (by decide) ?_
        refine wk_ixor C dX1_deriveAt_89 rfl ?_
        refine wk_iand C dX1_deriveAt_90 rfl ?_
        refine wk_iload_n C dX1_deriveAt_91 rfl rfl ?_
        refine wk_iload C dX1_deriveAt_92 rfl ?_
        refine wk_iconst C (v := (-1)) dX1_deriveAt_94 (by decide) ?_
        refine wk_ixor C dX1_deriveAt_95 rfl ?_
        refine wk_iand C dX1_deriveAt_96 rfl ?_
        refine wk_ior C dX1_deriveAt_97 rfl ?_
        refine wk_callV C hR (As := [.int ((x3 &&& (x6 ^^^ (-1 : Int32))) ||| (x5 &&& (x7 ^^^ (-1 : Int32))))]) (cnt := 1) (tX1_derive (l := l) hWS8 (hXS8 _ _ hl0A) h) rfl (wkGoodV (List.mem_of_getElem? (i := 3) rfl) (List.mem_of_getElem? (i := 4) rfl) (List.mem_of_getElem? (i := 5) rfl) (List.mem_of_getElem? (i := 6) rfl) hbX1_deriveAt_X1_derive gdX1_derive) (Nat.le_trans (by decide : 0 + 1 ≤ 1) hd) (by decide) (hXS8 _ _ hl0A).1 (fun cy => wAt_1 cy _ (hXS8 _ _ hl0A).2) rfl ⟨by decide, by decide, by decide +kernel⟩ rfl rfl (Nat.le_of_ble_eq_true rfl) (Nat.le_refl 0) (Nat.le_refl 0) dX1_deriveAt_98 (fun v' S12 hp => ?_)
        obtain ⟨v11, rfl, h, hWS12, hXS12⟩ := hp
        exact E _ _ _ _ _ (Nat.le_refl 0) (Nat.le_refl 0) dX1_deriveAt_101 ⟨(), rfl, h, hWS12, (wkExt.tr (wkExt.tr hE hXS8) hXS12)⟩
      · rw [if_pos c10] at h
        refine wk_aload_n C dX1_deriveAt_76 rfl rfl ?_
        refine wk_iload_n C dX1_deriveAt_77 rfl rfl ?_
        refine wk_callV C hR (As := [.int x5]) (cnt := 1) (tX1_derive (l := l) hWS8 (hXS8 _ _ hl0A) h) rfl (wkGoodV (List.mem_of_getElem? (i := 3) rfl) (List.mem_of_getElem? (i := 4) rfl) (List.mem_of_getElem? (i := 5) rfl) (List.mem_of_getElem? (i := 6) rfl) hbX1_deriveAt_X1_derive gdX1_derive) (Nat.le_trans (by decide : 0 + 1 ≤ 1) hd) (by decide) (hXS8 _ _ hl0A).1 (fun cy => wAt_1 cy _ (hXS8 _ _ hl0A).2) rfl ⟨by decide, by decide, by decide +kernel⟩ rfl rfl (Nat.le_of_ble_eq_true rfl) (Nat.le_refl 0) (Nat.le_refl 0) dX1_deriveAt_78 (fun v' S17 hp => ?_)
        obtain ⟨v16, rfl, h, hWS17, hXS17⟩ := hp
        refine wk_goto C (tgt := 101) dX1_deriveAt_81 (by decide) ?_
        exact E _ _ _ _ _ (Nat.le_refl 0) (Nat.le_refl 0) dX1_deriveAt_101 ⟨(), rfl, h, hWS17, (wkExt.tr (wkExt.tr hE hXS8) hXS17)⟩
    · rw [if_pos c9] at h
      refine wk_aload_n C dX1_deriveAt_61 rfl rfl ?_
      refine wk_iload_n C dX1_deriveAt_62 rfl rfl ?_
      refine wk_callV C hR (As := [.int x3]) (cnt := 1) (tX1_derive (l := l) hWS8 (hXS8 _ _ hl0A) h) rfl (wkGoodV (List.mem_of_getElem? (i := 3) rfl) (List.mem_of_getElem? (i := 4) rfl) (List.mem_of_getElem? (i := 5) rfl) (List.mem_of_getElem? (i := 6) rfl) hbX1_deriveAt_X1_derive gdX1_derive) (Nat.le_trans (by decide : 0 + 1 ≤ 1) hd) (by decide) (hXS8 _ _ hl0A).1 (fun cy => wAt_1 cy _ (hXS8 _ _ hl0A).2) rfl ⟨by decide, by decide, by decide +kernel⟩ rfl rfl (Nat.le_of_ble_eq_true rfl) (Nat.le_refl 0) (Nat.le_refl 0) dX1_deriveAt_63 (fun v' S22 hp => ?_)
      obtain ⟨v21, rfl, h, hWS22, hXS22⟩ := hp
      refine wk_goto C (tgt := 101) dX1_deriveAt_66 (by decide) ?_
      exact E _ _ _ _ _ (Nat.le_refl 0) (Nat.le_refl 0) dX1_deriveAt_101 ⟨(), rfl, h, hWS22, (wkExt.tr (wkExt.tr hE hXS8) hXS22)⟩
  · rw [if_neg c1] at h
    exact E _ _ _ _ _ (Nat.le_refl 0) (Nat.le_refl 0) dX1_deriveAt_8 ⟨(), rfl, h, hW, hE⟩
