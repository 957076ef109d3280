def wvX7_goBack : List Cond := .code yX7_goBack cX7_goBack 3 (some .int) :: (([.fieldLink RX7 30 "Witnessworks$Networks" "via" "[I", .fieldLink RX7 27 "Witnessworks$Networks" "flow" "[I", .fieldLink RX7 21 "Witnessworks$Networks" "to" "[I", .fieldLink RX7 18 "Witnessworks$Networks" "from" "[I"] : List Cond) ++ ((wsX70) ++ ([])))
theorem huX7_goBack_7 : ∀ w ∈ u_ws RX7 TX7 11, w ∈ wvX7_goBack := fun w h => List.mem_cons_of_mem _ (List.mem_append_right _ (List.mem_append_left _ h))
theorem gdX7_goBack : ∀ w ∈ wvX7_goBack, wkGd w := wkGdC rfl (wkGdA (wkGdL (by decide +kernel)) (wkGdA gdX7 (fun _ h => absurd h List.not_mem_nil)))
def rX7_goBack (F : Nat) (l0A : Nat) (l1I : Int32) (S : wPS) (Φ : (Int32 → wPS → Prop)) : Prop :=
  ¬ (l1I < 0 ∨ S.len (wkAd (gNetworks_via S l0A)) ≤ (l1I).toNatClampNeg) ∧ wkLt (((S.rI (wkAd (gNetworks_via S l0A)) (l1I).toNatClampNeg) / (2 : Int32))) fun x2 => ¬ (l1I < 0 ∨ S.len (wkAd (gNetworks_via S l0A)) ≤ (l1I).toNatClampNeg) ∧ if ((S.rI (wkAd (gNetworks_via S l0A)) (l1I).toNatClampNeg) - (S.rI (wkAd (gNetworks_via S l0A)) (l1I).toNatClampNeg) / (2 : Int32) * (2 : Int32)) = 0 then (¬ (x2 < 0 ∨ S.len (wkAd (gNetworks_flow S l0A)) ≤ (x2).toNatClampNeg) ∧ ¬ (x2 < 0 ∨ S.len (wkAd (gNetworks_flow S l0A)) ≤ (x2).toNatClampNeg) ∧ wkLt (wuI S (wkAd (gNetworks_flow S l0A)) x2 ((S.rI (wkAd (gNetworks_flow S l0A)) (x2).toNatClampNeg) + (1 : Int32))) fun S11 => ¬ (x2 < 0 ∨ S11.len (wkAd (gNetworks_from S11 l0A)) ≤ (x2).toNatClampNeg) ∧ Φ (S11.rI (wkAd (gNetworks_from S11 l0A)) (x2).toNatClampNeg) S11) else (¬ (x2 < 0 ∨ S.len (wkAd (gNetworks_flow S l0A)) ≤ (x2).toNatClampNeg) ∧ ¬ (x2 < 0 ∨ S.len (wkAd (gNetworks_flow S l0A)) ≤ (x2).toNatClampNeg) ∧ wkLt (wuI S (wkAd (gNetworks_flow S l0A)) x2 ((S.rI (wkAd (gNetworks_flow S l0A)) (x2).toNatClampNeg) - (1 : Int32))) fun S7 => ¬ (x2 < 0 ∨ S7.len (wkAd (gNetworks_to S7 l0A)) ≤ (x2).toNatClampNeg) ∧ Φ (S7.rI (wkAd (gNetworks_to S7 l0A)) (x2).toNatClampNeg) S7)
set_option maxHeartbeats 4000000 in
set_option maxRecDepth 100000 in
theorem tX7_goBack {l : Launch} {g : wkG} {F : Nat}  {S : wPS} {l0A : Nat} {l1I : Int32} {Φ : (Int32 → wPS → Prop)} (hW : wkWF S) (hl0A : wkIs S l0A 7) (h : rX7_goBack F l0A l1I S Φ) : wkMet l g yX7_goBack wvX7_goBack 0 0 0 [.ref l0A, .int l1I] S (fun v' S'' => ∃ v : Int32, v' = some (.int v) ∧ Φ v S'' ∧ wkWF S'' ∧ wkExt S S'') := by
  refine wkMet_of (ret := (some .int)) (by decide) rfl (Nat.le_of_ble_eq_true rfl) (fun X hg C hR E => ?_)
  subst hg
  have hE : wkExt S S := wkExt.rf
  have hd : 0 ≤ 0 := Nat.le_refl _
  show wkGo l X 3 0 0 0 S [some (.ref l0A), some (.int l1I), none] []
  unfold rX7_goBack at h
  refine wk_aload_n C dX7_goBack_0 rfl rfl ?_
  refine wk_get C huX7_goBack_7 hl0A.1 (fun cy => wAt_7 cy _ hl0A.2) rfl 6 (by decide) (List.mem_of_getElem? (i := 1) rfl) rfl (congrArg some (congrArg va_rf (wf_Networks_via hW hl0A).1)) dX7_goBack_1 ?_
  refine wk_iload_n C dX7_goBack_4 rfl rfl ?_
  obtain ⟨i1, h⟩ := h
  refine wk_iald C (wf_Networks_via hW hl0A).2.1 (wf_Networks_via hW hl0A).2.2 i1 rfl dX7_goBack_5 ?_
  refine wk_iconst C (v := 2) dX7_goBack_6 (by decide) ?_
  refine wk_idiv C dX7_goBack_7 (by decide) rfl ?_
  obtain ⟨x2, ex2, h⟩ := wkLt_some h
  refine wk_topi ex2 ?_
  refine wk_istore_n C (lv' := [some (.ref l0A), some (.int l1I), some (.int x2)]) dX7_goBack_8 rfl (by decide) rfl ?_
  refine wk_aload_n C dX7_goBack_9 rfl rfl ?_
  refine wk_get C huX7_goBack_7 hl0A.1 (fun cy => wAt_7 cy _ hl0A.2) rfl 6 (by decide) (List.mem_of_getElem? (i := 1) rfl) rfl (congrArg some (congrArg va_rf (wf_Networks_via hW hl0A).1)) dX7_goBack_10 ?_
  refine wk_iload_n C dX7_goBack_13 rfl rfl ?_
  obtain ⟨i3, h⟩ := h
  refine wk_iald C (wf_Networks_via hW hl0A).2.1 (wf_Networks_via hW hl0A).2.2 i3 rfl dX7_goBack_14 ?_
  refine wk_iconst C (v := 2) dX7_goBack_15 (by decide) ?_
  refine wk_irem C dX7_goBack_16 (by decide) rfl ?_
  refine wk_if_ne C (tgt := 37) dX7_goBack_17 (by decide) (fun c4 => ?_) (fun c4 => ?_)
  · rw [if_neg c4] at h
    refine wk_aload_n C dX7_goBack_37 rfl rfl ?_
    refine wk_get C huX7_goBack_7 hl0A.1 (fun cy => wAt_7 cy _ hl0A.2) rfl 5 (by decide) (List.mem_of_getElem? (i := 2) rfl) rfl (congrArg some (congrArg va_rf (wf_Networks_flow hW hl0A).1)) dX7_goBack_38 ?_
    refine wk_iload_n C dX7_goBack_41 rfl rfl ?_
    refine wk_dup2 C dX7_goBack_42 rfl rfl ?_
    obtain ⟨i5, h⟩ := h
    refine wk_iald C (wf_Networks_flow hW hl0A).2.1 (wf_Networks_flow hW hl0A).2.2 i5 rfl dX7_goBack_43 ?_
    refine wk_iconst C (v := 1) dX7_goBack_44 (by decide) ?_
    refine wk_isub C dX7_goBack_45 rfl ?_
    obtain ⟨i6, h⟩ := h
    obtain ⟨S7, eS7, h⟩ := wkLt_some h
    refine wk_iast C (wf_Networks_flow hW hl0A).2.1 (wf_Networks_flow hW hl0A).2.2 i6 eS7.symm dX7_goBack_46 ?_
    have hWS7 : wkWF S7 := by rw [eS7]; exact hW
    have hXS7 : wkExt S S7 := by rw [eS7]; exact wkExt.rf
    refine wk_aload_n C dX7_goBack_47 rfl rfl ?_
    refine wk_get C huX7_goBack_7 (hXS7 _ _ hl0A).1 (fun cy => wAt_7 cy _ (hXS7 _ _ hl0A).2) rfl 3 (by decide) (List.mem_of_getElem? (i := 3) rfl) rfl (congrArg some (congrArg va_rf (wf_Networks_to hWS7 (hXS7 _ _ hl0A)).1)) dX7_goBack_48 ?_
    refine wk_iload_n C dX7_goBack_51 rfl rfl ?_
    obtain ⟨i8, h⟩ := h
    refine wk_iald C (wf_Networks_to hWS7 (hXS7 _ _ hl0A)).2.1 (wf_Networks_to hWS7 (hXS7 _ _ hl0A)).2.2 i8 rfl dX7_goBack_52 ?_
    exact E _ _ _ _ _ _ (Nat.le_refl 0) (Nat.le_refl 0) dX7_goBack_53 ⟨(S7.rI (wkAd (gNetworks_to S7 l0A)) (x2).toNatClampNeg), rfl, h, hWS7, (wkExt.tr hE hXS7)⟩
  · rw [if_pos c4] at h
    refine wk_aload_n C dX7_goBack_20 rfl rfl ?_
    refine wk_get C huX7_goBack_7 hl0A.1 (fun cy => wAt_7 cy _ hl0A.2) rfl 5 (by decide) (List.mem_of_getElem? (i := 2) rfl) rfl (congrArg some (congrArg va_rf (wf_Networks_flow hW hl0A).1)) dX7_goBack_21 ?_
    refine wk_iload_n C dX7_goBack_24 rfl rfl ?_
    refine wk_dup2 C dX7_goBack_25 rfl rfl ?_
    obtain ⟨i9, h⟩ := h
    refine wk_iald C (wf_Networks_flow hW hl0A).2.1 (wf_Networks_flow hW hl0A).2.2 i9 rfl dX7_goBack_26 ?_
    refine wk_iconst C (v := 1) dX7_goBack_27 (by decide) ?_
    refine wk_iadd C dX7_goBack_28 rfl ?_
    obtain ⟨i10, h⟩ := h
    obtain ⟨S11, eS11, h⟩ := wkLt_some h
    refine wk_iast C (wf_Networks_flow hW hl0A).2.1 (wf_Networks_flow hW hl0A).2.2 i10 eS11.symm dX7_goBack_29 ?_
    have hWS11 : wkWF S11 := by rw [eS11]; exact hW
    have hXS11 : wkExt S S11 := by rw [eS11]; exact wkExt.rf
    refine wk_aload_n C dX7_goBack_30 rfl rfl ?_
    refine wk_get C huX7_goBack_7 (hXS11 _ _ hl0A).1 (fun cy => wAt_7 cy _ (hXS11 _ _ hl0A).2) rfl 2 (by decide) (List.mem_of_getElem? (i := 4) rfl) rfl (congrArg some (congrArg va_rf (wf_Networks_from hWS11 (hXS11 _ _ hl0A)).1)) dX7_goBack_31 ?_
    refine wk_iload_n C dX7_goBack_34 rfl rfl ?_
    obtain ⟨i12, h⟩ := h
    refine wk_iald C (wf_Networks_from hWS11 (hXS11 _ _ hl0A)).2.1 (wf_Networks_from hWS11 (hXS11 _ _ hl0A)).2.2 i12 rfl dX7_goBack_35 ?_
    exact E _ _ _ _ _ _ (Nat.le_refl 0) (Nat.le_refl 0) dX7_goBack_36 ⟨(S11.rI (wkAd (gNetworks_from S11 l0A)) (x2).toNatClampNeg), rfl, h, hWS11, (wkExt.tr hE hXS11)⟩
def wvX8_init : List Cond := .code yX8_init cX8_init 1 none :: (([.methodLink RX8 3 objectInit, .instanceMethod objectInit, .code objectInit ⟨#[0xb1]⟩ 1 none, .arrayClass .long, .fieldLink RX8 11 "Witnessworks$Numbers" "point" "[J", .classLink RX8 15 "[[J", .fieldLink RX8 17 "Witnessworks$Numbers" "basis" "[[J", .fieldLink RX8 20 "Witnessworks$Numbers" "amounts" "[J", .fieldLink RX8 23 "Witnessworks$Numbers" "chain" "[[J", .arrayClass .int, .fieldLink RX8 26 "Witnessworks$Numbers" "degrees" "[I", .fieldLink RX8 30 "Witnessworks$Numbers" "left" "[J", .fieldLink RX8 33 "Witnessworks$Numbers" "often" "[J"] : List Cond) ++ ((wsX80) ++ ([])))
theorem huX8_init_8 : ∀ w ∈ u_ws RX8 TX8 9, w ∈ wvX8_init := fun w h => List.mem_cons_of_mem _ (List.mem_append_right _ (List.mem_append_left _ h))
theorem gdX8_init : ∀ w ∈ wvX8_init, wkGd w := wkGdC rfl (wkGdA (wkGdL (by decide +kernel)) (wkGdA gdX8 (fun _ h => absurd h List.not_mem_nil)))
def rX8_init (F : Nat) (k n : Nat) (l0A : Nat) (S : wPS) (Φ : (Unit → wPS → Prop)) : Prop :=
  ¬ (4 : Int32) < 0 ∧ 0 + 1 ≤ k ∧ 0 + ((4 : Int32)).toNatClampNeg ≤ n ∧ ((4 : Int32)).toNatClampNeg * 8 ≤ 536870912 ∧ ∀ q2 : Nat, ¬ q2 ∈ S.L → wkLt (wnJ S q2 ((4 : Int32)).toNatClampNeg (fun _ => 0)) fun S3 => wkLt (wu_Numbers_point S3 l0A (some q2)) fun S4 => ¬ (4 : Int32) < 0 ∧ ¬ (4 : Int32) < 0 ∧ ((4 : Int32)).toNatClampNeg * 4 ≤ 536870912 ∧ ((4 : Int32)).toNatClampNeg * 8 ≤ 536870912 ∧ (0 + 1) + (1 + ((4 : Int32)).toNatClampNeg) ≤ k ∧ (0 + ((4 : Int32)).toNatClampNeg) + (((4 : Int32)).toNatClampNeg + ((4 : Int32)).toNatClampNeg * ((4 : Int32)).toNatClampNeg) ≤ n ∧ ∀ (q6 : Nat) (r7 : Nat → Nat), (∀ i j : Nat, i < ((4 : Int32)).toNatClampNeg → j < ((4 : Int32)).toNatClampNeg → r7 i = r7 j → i = j) → (∀ i : Nat, i < ((4 : Int32)).toNatClampNeg → ¬ r7 i ∈ S4.L) → ¬ q6 ∈ S4.L ++ (List.range ((4 : Int32)).toNatClampNeg).map r7 → wkLt (wnT S4 q6 18 14 ((4 : Int32)).toNatClampNeg ((4 : Int32)).toNatClampNeg ((List.range ((4 : Int32)).toNatClampNeg).map r7) r7) fun S8 => wkLt (wu_Numbers_basis S8 l0A (some q6)) fun S11 => ¬ (4 : Int32) < 0 ∧ ((0 + 1) + 1 + ((4 : Int32)).toNatClampNeg) + 1 ≤ k ∧ ((0 + ((4 : Int32)).toNatClampNeg) + ((4 : Int32)).toNatClampNeg + ((4 : Int32)).toNatClampNeg * ((4 : Int32)).toNatClampNeg) + ((4 : Int32)).toNatClampNeg ≤ n ∧ ((4 : Int32)).toNatClampNeg * 8 ≤ 536870912 ∧ ∀ q13 : Nat, ¬ q13 ∈ S11.L → wkLt (wnJ S11 q13 ((4 : Int32)).toNatClampNeg (fun _ => 0)) fun S14 => wkLt (wu_Numbers_amounts S14 l0A (some q13)) fun S15 => ¬ (5 : Int32) < 0 ∧ ¬ (4 : Int32) < 0 ∧ ((5 : Int32)).toNatClampNeg * 4 ≤ 536870912 ∧ ((4 : Int32)).toNatClampNeg * 8 ≤ 536870912 ∧ (((0 + 1) + 1 + ((4 : Int32)).toNatClampNeg) + 1) + (1 + ((5 : Int32)).toNatClampNeg) ≤ k ∧ (((0 + ((4 : Int32)).toNatClampNeg) + ((4 : Int32)).toNatClampNeg + ((4 : Int32)).toNatClampNeg * ((4 : Int32)).toNatClampNeg) + ((4 : Int32)).toNatClampNeg) + (((5 : Int32)).toNatClampNeg + ((5 : Int32)).toNatClampNeg * ((4 : Int32)).toNatClampNeg) ≤ n ∧ ∀ (q17 : Nat) (r18 : Nat → Nat), (∀ i j : Nat, i < ((5 : Int32)).toNatClampNeg → j < ((5 : Int32)).toNatClampNeg → r18 i = r18 j → i = j) → (∀ i : Nat, i < ((5 : Int32)).toNatClampNeg → ¬ r18 i ∈ S15.L) → ¬ q17 ∈ S15.L ++ (List.range ((5 : Int32)).toNatClampNeg).map r18 → wkLt (wnT S15 q17 18 14 ((5 : Int32)).toNatClampNeg ((4 : Int32)).toNatClampNeg ((List.range ((5 : Int32)).toNatClampNeg).map r18) r18) fun S19 => wkLt (wu_Numbers_chain S19 l0A (some q17)) fun S22 => ¬ (5 : Int32) < 0 ∧ ((((0 + 1) + 1 + ((4 : Int32)).toNatClampNeg) + 1) + 1 + ((5 : Int32)).toNatClampNeg) + 1 ≤ k ∧ ((((0 + ((4 : Int32)).toNatClampNeg) + ((4 : Int32)).toNatClampNeg + ((4 : Int32)).toNatClampNeg * ((4 : Int32)).toNatClampNeg) + ((4 : Int32)).toNatClampNeg) + ((5 : Int32)).toNatClampNeg + ((5 : Int32)).toNatClampNeg * ((4 : Int32)).toNatClampNeg) + ((5 : Int32)).toNatClampNeg ≤ n ∧ ((5 : Int32)).toNatClampNeg * 4 ≤ 536870912 ∧ ∀ q24 : Nat, ¬ q24 ∈ S22.L → wkLt (wnI S22 q24 13 ((5 : Int32)).toNatClampNeg (fun _ => 0)) fun S25 => wkLt (wu_Numbers_degrees S25 l0A (some q24)) fun S26 => ¬ (4 : Int32) < 0 ∧ (((((0 + 1) + 1 + ((4 : Int32)).toNatClampNeg) + 1) + 1 + ((5 : Int32)).toNatClampNeg) + 1) + 1 ≤ k ∧ (((((0 + ((4 : Int32)).toNatClampNeg) + ((4 : Int32)).toNatClampNeg + ((4 : Int32)).toNatClampNeg * ((4 : Int32)).toNatClampNeg) + ((4 : Int32)).toNatClampNeg) + ((5 : Int32)).toNatClampNeg + ((5 : Int32)).toNatClampNeg * ((4 : Int32)).toNatClampNeg) + ((5 : Int32)).toNatClampNeg) + ((4 : Int32)).toNatClampNeg ≤ n ∧ ((4 : Int32)).toNatClampNeg * 8 ≤ 536870912 ∧ ∀ q28 : Nat, ¬ q28 ∈ S26.L → wkLt (wnJ S26 q28 ((4 : Int32)).toNatClampNeg (fun _ => 0)) fun S29 => wkLt (wu_Numbers_left S29 l0A (some q28)) fun S30 => ¬ (4 : Int32) < 0 ∧ ((((((0 + 1) + 1 + ((4 : Int32)).toNatClampNeg) + 1) + 1 + ((5 : Int32)).toNatClampNeg) + 1) + 1) + 1 ≤ k ∧ ((((((0 + ((4 : Int32)).toNatClampNeg) + ((4 : Int32)).toNatClampNeg + ((4 : Int32)).toNatClampNeg * ((4 : Int32)).toNatClampNeg) + ((4 : Int32)).toNatClampNeg) + ((5 : Int32)).toNatClampNeg + ((5 : Int32)).toNatClampNeg * ((4 : Int32)).toNatClampNeg) + ((5 : Int32)).toNatClampNeg) + ((4 : Int32)).toNatClampNeg) + ((4 : Int32)).toNatClampNeg ≤ n ∧ ((4 : Int32)).toNatClampNeg * 8 ≤ 536870912 ∧ ∀ q32 : Nat, ¬ q32 ∈ S30.L → wkLt (wnJ S30 q32 ((4 : Int32)).toNatClampNeg (fun _ => 0)) fun S33 => wkLt (wu_Numbers_often S33 l0A (some q32)) fun S34 => Φ () S34
set_option maxHeartbeats 4000000 in
set_option maxRecDepth 100000 in
theorem tX8_init {l : Launch} {g : wkG} {F : Nat} {k n : Nat}  {S : wPS} {l0A : Nat} {Φ : (Unit → wPS → Prop)} (hmk : wkMk g) (hW : wkTT S) (hl0A : wkIs S l0A 8) (h : rX8_init F k n l0A S Φ) : wkMet l g yX8_init wvX8_init 1 k n [.ref l0A] S (fun v' S'' => ∃ v : Unit, v' = none ∧ Φ v S'' ∧ wkTT S'' ∧ wkExt S S'') := by
  refine wkMet_ofI (ret := none) (plainFor_of_name (by decide)) rfl rfl (Nat.le_of_ble_eq_true rfl) (fun X hg C hR hI0 E => ?_)
  subst hg
  have hE : wkExt S S := wkExt.rf
  have hd : 1 ≤ 1 := Nat.le_refl _
  show wkGo l X 1 0 0 0 S [some (.ref l0A)] []
  unfold rX8_init at h
  refine wk_aload_n C dX8_init_0 rfl rfl ?_
  refine wk_objInit C hR (List.mem_of_getElem? (i := 1) rfl) (List.mem_of_getElem? (i := 2) rfl) (List.mem_of_getElem? (i := 3) rfl) (Nat.le_trans (by decide) hd) (Nat.le_of_ble_eq_true rfl) dX8_init_1 ?_
  refine wk_aload_n C dX8_init_4 rfl rfl ?_
  refine wk_iconst C (v := 4) dX8_init_5 (by decide) ?_
  obtain ⟨h1a, h1b, h1c, h1d, h⟩ := h
  refine wk_newJ C hR (List.mem_of_getElem? (i := 4) rfl) h1a h1b h1c h1d dX8_init_6 (fun q2 h1e => ?_)
  obtain ⟨S3, eS3, h⟩ := wkLt_some (h q2 h1e)
  rw [← eS3]
  obtain ⟨hXS3, hIS3⟩ := wkExt_newJ eS3 h1e
  have hWS3 : wkTT S3 := trivial
  obtain ⟨S4, eS4, h⟩ := wkLt_some h
  refine wk_putF C hI0 (S' := S4) huX8_init_8 (hXS3 _ _ hl0A).1 (fun cy => wAt_8 cy _ (hXS3 _ _ hl0A).2) rfl 0 (by decide) (List.mem_of_getElem? (i := 5) rfl) rfl tyX8_ok nmX8 rfl rfl (ty := (.array .long)) rfl rfl rfl (by show 0 < 9; decide) (fun cy b => by rw [eS4]; exact wSt_8_0 cy _ (hXS3 _ _ hl0A).2 (some q2) b) (by rw [eS4]) dX8_init_8 ?_
  have hWS4 : wkTT S4 := trivial
  have hXS4 : wkExt S3 S4 := by rw [eS4]; exact wkExt.rf
  refine wk_aload_n C dX8_init_11 rfl rfl ?_
  refine wk_iconst C (v := 4) dX8_init_12 (by decide) ?_
  refine wk_iconst C (v := 4) dX8_init_13 (by decide) ?_
  obtain ⟨h5a, h5b, h5c, h5d, h5e, h5f, h⟩ := h
  refine wk_mnaJ C hR hmk (List.mem_of_getElem? (i := 6) rfl) (List.mem_of_getElem? (i := 4) rfl) h5a h5b h5c h5d h5e h5f dX8_init_14 (fun q6 r7 h5i h5r h5q => ?_)
  obtain ⟨S8, eS8, h⟩ := wkLt_some (h q6 r7 h5i h5r h5q)
  rw [← eS8]
  obtain ⟨hXS8, hIS8⟩ := wkExt_newT eS8 (fun z => h5q (List.mem_append_left _ z)) (fun a ha z => by obtain ⟨i, hi, rfl⟩ := List.mem_map.mp ha; exact h5r i (List.mem_range.mp hi) z)
  have hWS8 : wkTT S8 := trivial
  have z9 : (0 + 1) + 1 + ((4 : Int32)).toNatClampNeg ≤ k := by omega
  have z10 : (0 + ((4 : Int32)).toNatClampNeg) + ((4 : Int32)).toNatClampNeg + ((4 : Int32)).toNatClampNeg * ((4 : Int32)).toNatClampNeg ≤ n := by omega
  obtain ⟨S11, eS11, h⟩ := wkLt_some h
  refine wk_putF C hI0 (S' := S11) huX8_init_8 (hXS8 _ _ (hXS4 _ _ (hXS3 _ _ hl0A))).1 (fun cy => wAt_8 cy _ (hXS8 _ _ (hXS4 _ _ (hXS3 _ _ hl0A))).2) rfl 1 (by decide) (List.mem_of_getElem? (i := 7) rfl) rfl tyX8_ok nmX8 rfl rfl (ty := (.array (.array .long))) rfl rfl rfl (by show 1 < 9; decide) (fun cy b => by rw [eS11]; exact wSt_8_1 cy _ (hXS8 _ _ (hXS4 _ _ (hXS3 _ _ hl0A))).2 (some q6) b) (by rw [eS11]) dX8_init_18 ?_
  have hWS11 : wkTT S11 := trivial
  have hXS11 : wkExt S8 S11 := by rw [eS11]; exact wkExt.rf
  refine wk_aload_n C dX8_init_21 rfl rfl ?_
  refine wk_iconst C (v := 4) dX8_init_22 (by decide) ?_
  obtain ⟨h12a, h12b, h12c, h12d, h⟩ := h
  refine wk_newJ C hR (List.mem_of_getElem? (i := 4) rfl) h12a h12b h12c h12d dX8_init_23 (fun q13 h12e => ?_)
  obtain ⟨S14, eS14, h⟩ := wkLt_some (h q13 h12e)
  rw [← eS14]
  obtain ⟨hXS14, hIS14⟩ := wkExt_newJ eS14 h12e
  have hWS14 : wkTT S14 := trivial
  obtain ⟨S15, eS15, h⟩ := wkLt_some h
  refine wk_putF C hI0 (S' := S15) huX8_init_8 (hXS14 _ _ (hXS11 _ _ (hXS8 _ _ (hXS4 _ _ (hXS3 _ _ hl0A))))).1 (fun cy => wAt_8 cy _ (hXS14 _ _ (hXS11 _ _ (hXS8 _ _ (hXS4 _ _ (hXS3 _ _ hl0A))))).2) rfl 2 (by decide) (List.mem_of_getElem? (i := 8) rfl) rfl tyX8_ok nmX8 rfl rfl (ty := (.array .long)) rfl rfl rfl (by show 2 < 9; decide) (fun cy b => by rw [eS15]; exact wSt_8_2 cy _ (hXS14 _ _ (hXS11 _ _ (hXS8 _ _ (hXS4 _ _ (hXS3 _ _ hl0A))))).2 (some q13) b) (by rw [eS15]) dX8_init_25 ?_
  have hWS15 : wkTT S15 := trivial
  have hXS15 : wkExt S14 S15 := by rw [eS15]; exact wkExt.rf
  refine wk_aload_n C dX8_init_28 rfl rfl ?_
  refine wk_iconst C (v := 5) dX8_init_29 (by decide) ?_
  refine wk_iconst C (v := 4) dX8_init_30 (by decide) ?_
  obtain ⟨h16a, h16b, h16c, h16d, h16e, h16f, h⟩ := h
  refine wk_mnaJ C hR hmk (List.mem_of_getElem? (i := 6) rfl) (List.mem_of_getElem? (i := 4) rfl) h16a h16b h16c h16d h16e h16f dX8_init_31 (fun q17 r18 h16i h16r h16q => ?_)
  obtain ⟨S19, eS19, h⟩ := wkLt_some (h q17 r18 h16i h16r h16q)
  rw [← eS19]
  obtain ⟨hXS19, hIS19⟩ := wkExt_newT eS19 (fun z => h16q (List.mem_append_left _ z)) (fun a ha z => by obtain ⟨i, hi, rfl⟩ := List.mem_map.mp ha; exact h16r i (List.mem_range.mp hi) z)
  have hWS19 : wkTT S19 := trivial
  have z20 : (((0 + 1) + 1 + ((4 : Int32)).toNatClampNeg) + 1) + 1 + ((5 : Int32)).toNatClampNeg ≤ k := by omega
  have z21 : (((0 + ((4 : Int32)).toNatClampNeg) + ((4 : Int32)).toNatClampNeg + ((4 : Int32)).toNatClampNeg * ((4 : Int32)).toNatClampNeg) + ((4 : Int32)).toNatClampNeg) + ((5 : Int32)).toNatClampNeg + ((5 : Int32)).toNatClampNeg * ((4 : Int32)).toNatClampNeg ≤ n := by omega
  obtain ⟨S22, eS22, h⟩ := wkLt_some h
  refine wk_putF C hI0 (S' := S22) huX8_init_8 (hXS19 _ _ (hXS15 _ _ (hXS14 _ _ (hXS11 _ _ (hXS8 _ _ (hXS4 _ _ (hXS3 _ _ hl0A))))))).1 (fun cy => wAt_8 cy _ (hXS19 _ _ (hXS15 _ _ (hXS14 _ _ (hXS11 _ _ (hXS8 _ _ (hXS4 _ _ (hXS3 _ _ hl0A))))))).2) rfl 4 (by decide) (List.mem_of_getElem? (i := 9) rfl) rfl tyX8_ok nmX8 rfl rfl (ty := (.array (.array .long))) rfl rfl rfl (by show 4 < 9; decide) (fun cy b => by rw [eS22]; exact wSt_8_4 cy _ (hXS19 _ _ (hXS15 _ _ (hXS14 _ _ (hXS11 _ _ (hXS8 _ _ (hXS4 _ _ (hXS3 _ _ hl0A))))))).2 (some q17) b) (by rw [eS22]) dX8_init_35 ?_
  have hWS22 : wkTT S22 := trivial
  have hXS22 : wkExt S19 S22 := by rw [eS22]; exact wkExt.rf
  refine wk_aload_n C dX8_init_38 rfl rfl ?_
  refine wk_iconst C (v := 5) dX8_init_39 (by decide) ?_
  obtain ⟨h23a, h23b, h23c, h23d, h⟩ := h
  refine wk_newI C hR (List.mem_of_getElem? (i := 10) rfl) h23a h23b h23c h23d dX8_init_40 (fun q24 h23e => ?_)
  obtain ⟨S25, eS25, h⟩ := wkLt_some (h q24 h23e)
  rw [← eS25]
  obtain ⟨hXS25, hIS25⟩ := wkExt_newI eS25 h23e
  have hWS25 : wkTT S25 := trivial
  obtain ⟨S26, eS26, h⟩ := wkLt_some h
  refine wk_putF C hI0 (S' := S26) huX8_init_8 (hXS25 _ _ (hXS22 _ _ (hXS19 _ _ (hXS15 _ _ (hXS14 _ _ (hXS11 _ _ (hXS8 _ _ (hXS4 _ _ (hXS3 _ _ hl0A))))))))).1 (fun cy => wAt_8 cy _ (hXS25 _ _ (hXS22 _ _ (hXS19 _ _ (hXS15 _ _ (hXS14 _ _ (hXS11 _ _ (hXS8 _ _ (hXS4 _ _ (hXS3 _ _ hl0A))))))))).2) rfl 5 (by decide) (List.mem_of_getElem? (i := 11) rfl) rfl tyX8_ok nmX8 rfl rfl (ty := (.array .int)) rfl rfl rfl (by show 5 < 9; decide) (fun cy b => by rw [eS26]; exact wSt_8_5 cy _ (hXS25 _ _ (hXS22 _ _ (hXS19 _ _ (hXS15 _ _ (hXS14 _ _ (hXS11 _ _ (hXS8 _ _ (hXS4 _ _ (hXS3 _ _ hl0A))))))))).2 (some q24) b) (by rw [eS26]) dX8_init_42 ?_
  have hWS26 : wkTT S26 := trivial
  have hXS26 : wkExt S25 S26 := by rw [eS26]; exact wkExt.rf
  refine wk_aload_n C dX8_init_45 rfl rfl ?_
  refine wk_iconst C (v := 4) dX8_init_46 (by decide) ?_
  obtain ⟨h27a, h27b, h27c, h27d, h⟩ := h
  refine wk_newJ C hR (List.mem_of_getElem? (i := 4) rfl) h27a h27b h27c h27d dX8_init_47 (fun q28 h27e => ?_)
  obtain ⟨S29, eS29, h⟩ := wkLt_some (h q28 h27e)
  rw [← eS29]
  obtain ⟨hXS29, hIS29⟩ := wkExt_newJ eS29 h27e
  have hWS29 : wkTT S29 := trivial
  obtain ⟨S30, eS30, h⟩ := wkLt_some h
  refine wk_putF C hI0 (S' := S30) huX8_init_8 (hXS29 _ _ (hXS26 _ _ (hXS25 _ _ (hXS22 _ _ (hXS19 _ _ (hXS15 _ _ (hXS14 _ _ (hXS11 _ _ (hXS8 _ _ (hXS4 _ _ (hXS3 _ _ hl0A))))))))))).1 (fun cy => wAt_8 cy _ (hXS29 _ _ (hXS26 _ _ (hXS25 _ _ (hXS22 _ _ (hXS19 _ _ (hXS15 _ _ (hXS14 _ _ (hXS11 _ _ (hXS8 _ _ (hXS4 _ _ (hXS3 _ _ hl0A))))))))))).2) rfl 6 (by decide) (List.mem_of_getElem? (i := 12) rfl) rfl tyX8_ok nmX8 rfl rfl (ty := (.array .long)) rfl rfl rfl (by show 6 < 9; decide) (fun cy b => by rw [eS30]; exact wSt_8_6 cy _ (hXS29 _ _ (hXS26 _ _ (hXS25 _ _ (hXS22 _ _ (hXS19 _ _ (hXS15 _ _ (hXS14 _ _ (hXS11 _ _ (hXS8 _ _ (hXS4 _ _ (hXS3 _ _ hl0A))))))))))).2 (some q28) b) (by rw [eS30]) dX8_init_49 ?_
  have hWS30 : wkTT S30 := trivial
  have hXS30 : wkExt S29 S30 := by rw [eS30]; exact wkExt.rf
  refine wk_aload_n C dX8_init_52 rfl rfl ?_
  refine wk_iconst C (v := 4) dX8_init_53 (by decide) ?_
  obtain ⟨h31a, h31b, h31c, h31d, h⟩ := h
  refine wk_newJ C hR (List.mem_of_getElem? (i := 4) rfl) h31a h31b h31c h31d dX8_init_54 (fun q32 h31e => ?_)
  obtain ⟨S33, eS33, h⟩ := wkLt_some (h q32 h31e)
  rw [← eS33]
  obtain ⟨hXS33, hIS33⟩ := wkExt_newJ eS33 h31e
  have hWS33 : wkTT S33 := trivial
  obtain ⟨S34, eS34, h⟩ := wkLt_some h
  refine wk_putF C hI0 (S' := S34) huX8_init_8 (hXS33 _ _ (hXS30 _ _ (hXS29 _ _ (hXS26 _ _ (hXS25 _ _ (hXS22 _ _ (hXS19 _ _ (hXS15 _ _ (hXS14 _ _ (hXS11 _ _ (hXS8 _ _ (hXS4 _ _ (hXS3 _ _ hl0A))))))))))))).1 (fun cy => wAt_8 cy _ (hXS33 _ _ (hXS30 _ _ (hXS29 _ _ (hXS26 _ _ (hXS25 _ _ (hXS22 _ _ (hXS19 _ _ (hXS15 _ _ (hXS14 _ _ (hXS11 _ _ (hXS8 _ _ (hXS4 _ _ (hXS3 _ _ hl0A))))))))))))).2) rfl 7 (by decide) (List.mem_of_getElem? (i := 13) rfl) rfl tyX8_ok nmX8 rfl rfl (ty := (.array .long)) rfl rfl rfl (by show 7 < 9; decide) (fun cy b => by rw [eS34]; exact wSt_8_7 cy _ (hXS33 _ _ (hXS30 _ _ (hXS29 _ _ (hXS26 _ _ (hXS25 _ _ (hXS22 _ _ (hXS19 _ _ (hXS15 _ _ (hXS14 _ _ (hXS11 _ _ (hXS8 _ _ (hXS4 _ _ (hXS3 _ _ hl0A))))))))))))).2 (some q32) b) (by rw [eS34]) dX8_init_56 ?_
  have hWS34 : wkTT S34 := trivial
  have hXS34 : wkExt S33 S34 := by rw [eS34]; exact wkExt.rf
  exact E _ _ _ _ _ h31b h31c dX8_init_59 ⟨(), rfl, h, hWS34, (wkExt.tr (wkExt.tr (wkExt.tr (wkExt.tr (wkExt.tr (wkExt.tr (wkExt.tr (wkExt.tr (wkExt.tr (wkExt.tr (wkExt.tr (wkExt.tr (wkExt.tr (wkExt.tr hE hXS3) hXS4) hXS8) hXS11) hXS14) hXS15) hXS19) hXS22) hXS25) hXS26) hXS29) hXS30) hXS33) hXS34)⟩
def wvX8_rightSide : List Cond := .code yX8_rightSide cX8_rightSide 2 (some .int) :: (([.fieldLink RX8 71 "Witnessworks$Entry" "itemCount" "I", .methodLink RX8 77 yX3_at, .instanceMethod yX3_at, .selects RX3 yX3_at yX3_at, .initialized RX3, .fieldLink RX8 74 "Witnessworks$Entry" "boundNow" "I"] : List Cond) ++ ((wsX30) ++ (wvX3_at)))
theorem huX8_rightSide_3 : ∀ w ∈ u_ws RX3 TX3 17, w ∈ wvX8_rightSide := fun w h => List.mem_cons_of_mem _ (List.mem_append_right _ (List.mem_append_left _ h))
theorem hbX8_rightSide_X3_at : ∀ w ∈ wvX3_at, w ∈ wvX8_rightSide := fun w h => List.mem_cons_of_mem _ (List.mem_append_right _ (List.mem_append_right _ h))
theorem gdX8_rightSide : ∀ w ∈ wvX8_rightSide, wkGd w := wkGdC rfl (wkGdA (wkGdL (by decide +kernel)) (wkGdA gdX3 gdX3_at))
def rX8_rightSide (F : Nat) (l0A : Nat) (l1I : Int32) (S : wPS) (Φ : (Int32 → wPS → Prop)) : Prop :=
  if l1I = ((gEntry_itemCount S l0A) - (1 : Int32)) then (Φ (gEntry_boundNow S l0A) S) else (rX3_at F l0A l1I (4 : Int32) S fun v2 S3 => Φ v2 S3)
set_option maxHeartbeats 4000000 in
set_option maxRecDepth 100000 in
theorem tX8_rightSide {l : Launch} {g : wkG} {F : Nat}  {S : wPS} {l0A : Nat} {l1I : Int32} {Φ : (Int32 → wPS → Prop)} (hW : wkWF S) (hl0A : wkIs S l0A 3) (h : rX8_rightSide F l0A l1I S Φ) : wkMet l g yX8_rightSide wvX8_rightSide 1 0 0 [.ref l0A, .int l1I] S (fun v' S'' => ∃ v : Int32, v' = some (.int v) ∧ Φ v S'' ∧ wkWF S'' ∧ wkExt S S'') := by
  refine wkMet_of (ret := (some .int)) (by decide) rfl (Nat.le_of_ble_eq_true rfl) (fun X hg C hR E => ?_)
  subst hg
  have hE : wkExt S S := wkExt.rf
  have hd : 1 ≤ 1 := Nat.le_refl _
  show wkGo l X 2 0 0 0 S [some (.ref l0A), some (.int l1I)] []
  unfold rX8_rightSide at h
  refine wk_iload_n C dX8_rightSide_0 rfl rfl ?_
  refine wk_aload_n C dX8_rightSide_1 rfl rfl ?_
  refine wk_get C (v := .int (gEntry_itemCount S l0A)) huX8_rightSide_3 hl0A.1 (fun cy => wAt_3 cy _ hl0A.2) rfl 6 (by decide) (List.mem_of_getElem? (i := 1) rfl) rfl rfl dX8_rightSide_2 ?_
  refine wk_iconst C (v := 1) dX8_rightSide_5 (by decide) ?_
  refine wk_isub C dX8_rightSide_6 rfl ?_
  refine wk_icmp_ne C (tgt := 17) dX8_rightSide_7 (by decide) (fun c1 => ?_) (fun c1 => ?_)
  · rw [if_neg c1] at h
    refine wk_aload_n C dX8_rightSide_17 rfl rfl ?_
    refine wk_iload_n C dX8_rightSide_18 rfl rfl ?_
    refine wk_iconst C (v := 4) dX8_rightSide_19 (by decide) ?_
    refine wk_callV C hR (As := [.int l1I, .int (4 : Int32)]) (cnt := 2) (tX3_at (l := l) hW hl0A h) rfl (wkGoodV (List.mem_of_getElem? (i := 2) rfl) (List.mem_of_getElem? (i := 3) rfl) (List.mem_of_getElem? (i := 4) rfl) (List.mem_of_getElem? (i := 5) rfl) hbX8_rightSide_X3_at gdX3_at) (Nat.le_trans (by decide : 0 + 1 ≤ 1) hd) (by decide) hl0A.1 (fun cy => wAt_3 cy _ hl0A.2) rfl ⟨by decide, by decide, by decide +kernel⟩ rfl rfl (Nat.le_of_ble_eq_true rfl) (Nat.le_refl 0) (Nat.le_refl 0) dX8_rightSide_20 (fun v' S3 hp => ?_)
    obtain ⟨v2, rfl, h, hWS3, hXS3⟩ := hp
    exact E _ _ _ _ _ _ (Nat.le_refl 0) (Nat.le_refl 0) dX8_rightSide_23 ⟨v2, rfl, h, hWS3, (wkExt.tr hE hXS3)⟩
  · rw [if_pos c1] at h
    refine wk_aload_n C dX8_rightSide_10 rfl rfl ?_
    refine wk_get C (v := .int (gEntry_boundNow S l0A)) huX8_rightSide_3 hl0A.1 (fun cy => wAt_3 cy _ hl0A.2) rfl 8 (by decide) (List.mem_of_getElem? (i := 6) rfl) rfl rfl dX8_rightSide_11 ?_
    refine wk_goto C (tgt := 23) dX8_rightSide_14 (by decide) ?_
    exact E _ _ _ _ _ _ (Nat.le_refl 0) (Nat.le_refl 0) dX8_rightSide_23 ⟨(gEntry_boundNow S l0A), rfl, h, hW, hE⟩
def wvX8_takeFromOthers : List Cond := .code yX8_takeFromOthers cX8_takeFromOthers 6 none :: (([.fieldLink RX8 80 "Witnessworks$Numbers" "basisCount" "I", .fieldLink RX8 20 "Witnessworks$Numbers" "amounts" "[J", .fieldLink RX8 17 "Witnessworks$Numbers" "basis" "[[J"] : List Cond) ++ ((wsX80) ++ ([])))
theorem huX8_takeFromOthers_8 : ∀ w ∈ u_ws RX8 TX8 9, w ∈ wvX8_takeFromOthers := fun w h => List.mem_cons_of_mem _ (List.mem_append_right _ (List.mem_append_left _ h))
theorem gdX8_takeFromOthers : ∀ w ∈ wvX8_takeFromOthers, wkGd w := wkGdC rfl (wkGdA (wkGdL (by decide +kernel)) (wkGdA gdX8 (fun _ h => absurd h List.not_mem_nil)))
def rX8_takeFromOthers_b0 (F : Nat) (rec : Nat → Nat → Int32 → Int32 → Int64 → Int32 → wPS → (Unit → wPS → Prop) → Prop) (l0A : Nat) (l1I : Int32) (l2I : Int32) (S : wPS) (Φ : (Unit → wPS → Prop)) : Prop :=
  if (gNumbers_basisCount S l0A) ≤ l2I then (Φ () S) else (if l2I = l1I then (wkLt (l2I + (1 : Int32)) fun x3 => rec 0 l0A l1I x3 0 0 S Φ) else (¬ (l1I < 0 ∨ S.len (wkAd (gNumbers_amounts S l0A)) ≤ (l1I).toNatClampNeg) ∧ if (lg_cmp (S.rJ (wkAd (gNumbers_amounts S l0A)) (l1I).toNatClampNeg) (0 : Int64)) = 0 then (wkLt (l2I + (1 : Int32)) fun x6 => rec 0 l0A l1I x6 0 0 S Φ) else (¬ (l2I < 0 ∨ S.len (wkAd (gNumbers_amounts S l0A)) ≤ (l2I).toNatClampNeg) ∧ ¬ (l1I < 0 ∨ S.len (wkAd (gNumbers_amounts S l0A)) ≤ (l1I).toNatClampNeg) ∧ ¬ (S.rJ (wkAd (gNumbers_amounts S l0A)) (l1I).toNatClampNeg) = 0 ∧ wkLt (((S.rJ (wkAd (gNumbers_amounts S l0A)) (l2I).toNatClampNeg) / (S.rJ (wkAd (gNumbers_amounts S l0A)) (l1I).toNatClampNeg))) fun x10 => ¬ (l2I < 0 ∨ S.len (wkAd (gNumbers_amounts S l0A)) ≤ (l2I).toNatClampNeg) ∧ ¬ (l1I < 0 ∨ S.len (wkAd (gNumbers_amounts S l0A)) ≤ (l1I).toNatClampNeg) ∧ ¬ (l2I < 0 ∨ S.len (wkAd (gNumbers_amounts S l0A)) ≤ (l2I).toNatClampNeg) ∧ wkLt (wuJ S (wkAd (gNumbers_amounts S l0A)) l2I ((S.rJ (wkAd (gNumbers_amounts S l0A)) (l2I).toNatClampNeg) - (x10 * (S.rJ (wkAd (gNumbers_amounts S l0A)) (l1I).toNatClampNeg)))) fun S14 => rec 1 l0A l1I l2I x10 (0 : Int32) S14 Φ)))
def rX8_takeFromOthers_b1 (F : Nat) (rec : Nat → Nat → Int32 → Int32 → Int64 → Int32 → wPS → (Unit → wPS → Prop) → Prop) (l0A : Nat) (l1I : Int32) (l2I : Int32) (l3J : Int64) (l5I : Int32) (S : wPS) (Φ : (Unit → wPS → Prop)) : Prop :=
  if (4 : Int32) ≤ l5I then (wkLt (l2I + (1 : Int32)) fun x16 => rec 0 l0A l1I x16 0 0 S Φ) else (¬ (l2I < 0 ∨ S.len (wkAd (gNumbers_basis S l0A)) ≤ (l2I).toNatClampNeg) ∧ ¬ (l5I < 0 ∨ S.len (wkAd (S.rA (wkAd (gNumbers_basis S l0A)) (l2I).toNatClampNeg)) ≤ (l5I).toNatClampNeg) ∧ ¬ (l1I < 0 ∨ S.len (wkAd (gNumbers_basis S l0A)) ≤ (l1I).toNatClampNeg) ∧ ¬ (l5I < 0 ∨ S.len (wkAd (S.rA (wkAd (gNumbers_basis S l0A)) (l1I).toNatClampNeg)) ≤ (l5I).toNatClampNeg) ∧ ¬ (l5I < 0 ∨ S.len (wkAd (S.rA (wkAd (gNumbers_basis S l0A)) (l2I).toNatClampNeg)) ≤ (l5I).toNatClampNeg) ∧ wkLt (wuJ S (wkAd (S.rA (wkAd (gNumbers_basis S l0A)) (l2I).toNatClampNeg)) l5I ((S.rJ (wkAd (S.rA (wkAd (gNumbers_basis S l0A)) (l2I).toNatClampNeg)) (l5I).toNatClampNeg) - (l3J * (S.rJ (wkAd (S.rA (wkAd (gNumbers_basis S l0A)) (l1I).toNatClampNeg)) (l5I).toNatClampNeg)))) fun S24 => wkLt (l5I + (1 : Int32)) fun x25 => rec 1 l0A l1I l2I l3J x25 S24 Φ)
def rX8_takeFromOthers_go (F : Nat) : Nat → Nat → Nat → Int32 → Int32 → Int64 → Int32 → wPS → (Unit → wPS → Prop) → Prop
  | 0, _, _, _, _, _, _, _, _ => False
  | k' + 1, lab, l0A, l1I, l2I, l3J, l5I, S, Φ => if lab = 0 then rX8_takeFromOthers_b0 F (rX8_takeFromOthers_go F k') l0A l1I l2I S Φ else if lab = 1 then rX8_takeFromOthers_b1 F (rX8_takeFromOthers_go F k') l0A l1I l2I l3J l5I S Φ else False
def rX8_takeFromOthers_s (F : Nat) (rec : Nat → Nat → Int32 → Int32 → Int64 → Int32 → wPS → (Unit → wPS → Prop) → Prop) (l0A : Nat) (l1I : Int32) (S : wPS) (Φ : (Unit → wPS → Prop)) : Prop :=
  rec 0 l0A l1I (0 : Int32) 0 0 S Φ
def rX8_takeFromOthers (F : Nat) (l0A : Nat) (l1I : Int32) (S : wPS) (Φ : (Unit → wPS → Prop)) : Prop := rX8_takeFromOthers_s F (rX8_takeFromOthers_go F F) l0A l1I S Φ
set_option maxHeartbeats 4000000 in
set_option maxRecDepth 100000 in
theorem tX8_takeFromOthers_go {l : Launch} {X : wkX} {d F : Nat} {S0 : wPS} {Φ : (Unit → wPS → Prop)} (C : wkC X cX8_takeFromOthers RX8 6 wvX8_takeFromOthers) (hR : wkRm X d 0 0) (hd : 0 ≤ d) (E : wkEnd l X cX8_takeFromOthers 6 none 0 0 (fun v' S'' => ∃ v : Unit, v' = none ∧ Φ v S'' ∧ wkWF S'' ∧ wkExt S0 S'')) : ∀ k' : Nat, (∀ (l0A : Nat) (l1I : Int32) (l2I : Int32) (S : wPS), wkWF S → wkExt S0 S → wkIs S l0A 8 → rX8_takeFromOthers_go F k' 0 l0A l1I l2I 0 0 S Φ → wkGo l X 6 0 0 2 S [some (.ref l0A), some (.int l1I), some (.int l2I), none, none, none] []) ∧ (∀ (l0A : Nat) (l1I : Int32) (l2I : Int32) (l3J : Int64) (l5I : Int32) (S : wPS), wkWF S → wkExt S0 S → wkIs S l0A 8 → rX8_takeFromOthers_go F k' 1 l0A l1I l2I l3J l5I S Φ → wkGo l X 6 0 0 60 S [some (.ref l0A), some (.int l1I), some (.int l2I), some (.long l3J), none, some (.int l5I)] []) := by
  intro k'
  induction k' with
  | zero => exact ⟨fun l0A l1I l2I S hW hE hl0A h => h.elim, fun l0A l1I l2I l3J l5I S hW hE hl0A h => h.elim⟩
  | succ k' ih =>
    refine ⟨?_, ?_⟩
    · intro l0A l1I l2I S hW hE hl0A h
      have h : rX8_takeFromOthers_b0 F (rX8_takeFromOthers_go F k') l0A l1I l2I S Φ := by
        rw [rX8_takeFromOthers_go, if_pos (rfl : (0 : Nat) = 0)] at h
        exact h
      unfold rX8_takeFromOthers_b0 at h
      refine wk_iload_n C dX8_takeFromOthers_2 rfl rfl ?_
      refine wk_aload_n C dX8_takeFromOthers_3 rfl rfl ?_
      refine wk_get C (v := .int (gNumbers_basisCount S l0A)) huX8_takeFromOthers_8 hl0A.1 (fun cy => wAt_8 cy _ hl0A.2) rfl 3 (by decide) (List.mem_of_getElem? (i := 1) rfl) rfl rfl dX8_takeFromOthers_4 ?_
      refine wk_icmp_ge C (tgt := 101) dX8_takeFromOthers_7 (by decide) (fun c1 => ?_) (fun c1 => ?_)
      · rw [if_pos c1] at h
        exact E _ _ _ _ _ (Nat.le_refl 0) (Nat.le_refl 0) dX8_takeFromOthers_101 ⟨(), rfl, h, hW, hE⟩
      · rw [if_neg c1] at h
        refine wk_iload_n C dX8_takeFromOthers_10 rfl rfl ?_
        refine wk_iload_n C dX8_takeFromOthers_11 rfl rfl ?_
        refine wk_icmp_eq C (tgt := 95) dX8_takeFromOthers_12 (by decide) (fun c2 => ?_) (fun c2 => ?_)
        · rw [if_pos c2] at h
          obtain ⟨x3, ex3, h⟩ := wkLt_some h
          refine wk_iinc C (lv' := [some (.ref l0A), some (.int l1I), some (.int x3), none, none, none]) dX8_takeFromOthers_95 rfl (by rw [ex3]; rfl) (by decide) rfl ?_
          refine wk_goto C (tgt := 2) dX8_takeFromOthers_98 (by decide) ?_
          exact wk_forget (lv' := [some (.ref l0A), some (.int l1I), some (.int x3), none, none, none]) (wkLs.le ⟨rfl, rfl, rfl, trivial⟩) (ih.1 _ _ _ _ hW hE hl0A h)
        · rw [if_neg c2] at h
          refine wk_aload_n C dX8_takeFromOthers_15 rfl rfl ?_
          refine wk_get C huX8_takeFromOthers_8 hl0A.1 (fun cy => wAt_8 cy _ hl0A.2) rfl 2 (by decide) (List.mem_of_getElem? (i := 2) rfl) rfl (congrArg some (congrArg va_rf (wf_Numbers_amounts hW hl0A).1)) dX8_takeFromOthers_16 ?_
          refine wk_iload_n C dX8_takeFromOthers_19 rfl rfl ?_
          obtain ⟨i4, h⟩ := h
          refine wk_lald C (wf_Numbers_amounts hW hl0A).2.1 (wf_Numbers_amounts hW hl0A).2.2 i4 rfl dX8_takeFromOthers_20 ?_
          refine wk_lconst C (v := 0) dX8_takeFromOthers_21 (by decide) ?_
          refine wk_lcmp C dX8_takeFromOthers_22 rfl ?_
          refine wk_if_eq C (tgt := 95) dX8_takeFromOthers_23 (by decide) (fun c5 => ?_) (fun c5 => ?_)
          · rw [if_pos c5] at h
            obtain ⟨x6, ex6, h⟩ := wkLt_some h
            refine wk_iinc C (lv' := [some (.ref l0A), some (.int l1I), some (.int x6), none, none, none]) dX8_takeFromOthers_95 rfl (by rw [ex6]; rfl) (by decide) rfl ?_
            refine wk_goto C (tgt := 2) dX8_takeFromOthers_98 (by decide) ?_
            exact wk_forget (lv' := [some (.ref l0A), some (.int l1I), some (.int x6), none, none, none]) (wkLs.le ⟨rfl, rfl, rfl, trivial⟩) (ih.1 _ _ _ _ hW hE hl0A h)
          · rw [if_neg c5] at h
            refine wk_aload_n C dX8_takeFromOthers_26 rfl rfl ?_
            refine wk_get C huX8_takeFromOthers_8 hl0A.1 (fun cy => wAt_8 cy _ hl0A.2) rfl 2 (by decide) (List.mem_of_getElem? (i := 2) rfl) rfl (congrArg some (congrArg va_rf (wf_Numbers_amounts hW hl0A).1)) dX8_takeFromOthers_27 ?_
            refine wk_iload_n C dX8_takeFromOthers_30 rfl rfl ?_
            obtain ⟨i7, h⟩ := h
            refine wk_lald C (wf_Numbers_amounts hW hl0A).2.1 (wf_Numbers_amounts hW hl0A).2.2 i7 rfl dX8_takeFromOthers_31 ?_
            refine wk_aload_n C dX8_takeFromOthers_32 rfl rfl ?_
            refine wk_get C huX8_takeFromOthers_8 hl0A.1 (fun cy => wAt_8 cy _ hl0A.2) rfl 2 (by decide) (List.mem_of_getElem? (i := 2) rfl) rfl (congrArg some (congrArg va_rf (wf_Numbers_amounts hW hl0A).1)) dX8_takeFromOthers_33 ?_
            refine wk_iload_n C dX8_takeFromOthers_36 rfl rfl ?_
            obtain ⟨i8, h⟩ := h
            refine wk_lald C (wf_Numbers_amounts hW hl0A).2.1 (wf_Numbers_amounts hW hl0A).2.2 i8 rfl dX8_takeFromOthers_37 ?_
            obtain ⟨z9, h⟩ := h
            refine wk_ldiv C dX8_takeFromOthers_38 z9 rfl ?_
            obtain ⟨x10, ex10, h⟩ := wkLt_some h
            refine wk_topl ex10 ?_
            refine wk_lstore_n C (lv' := [some (.ref l0A), some (.int l1I), some (.int l2I), some (.long x10), none, none]) dX8_takeFromOthers_39 rfl (by decide) rfl ?_
            refine wk_aload_n C dX8_takeFromOthers_40 rfl rfl ?_
            refine wk_get C huX8_takeFromOthers_8 hl0A.1 (fun cy => wAt_8 cy _ hl0A.2) rfl 2 (by decide) (List.mem_of_getElem? (i := 2) rfl) rfl (congrArg some (congrArg va_rf (wf_Numbers_amounts hW hl0A).1)) dX8_takeFromOthers_41 ?_
            refine wk_iload_n C dX8_takeFromOthers_44 rfl rfl ?_
            refine wk_dup2 C dX8_takeFromOthers_45 rfl rfl ?_
            obtain ⟨i11, h⟩ := h
            refine wk_lald C (wf_Numbers_amounts hW hl0A).2.1 (wf_Numbers_amounts hW hl0A).2.2 i11 rfl dX8_takeFromOthers_46 ?_
            refine wk_lload_n C dX8_takeFromOthers_47 rfl rfl ?_
            refine wk_aload_n C dX8_takeFromOthers_48 rfl rfl ?_
            refine wk_get C huX8_takeFromOthers_8 hl0A.1 (fun cy => wAt_8 cy _ hl0A.2) rfl 2 (by decide) (List.mem_of_getElem? (i := 2) rfl) rfl (congrArg some (congrArg va_rf (wf_Numbers_amounts hW hl0A).1)) dX8_takeFromOthers_49 ?_
            refine wk_iload_n C dX8_takeFromOthers_52 rfl rfl ?_
            obtain ⟨i12, h⟩ := h
            refine wk_lald C (wf_Numbers_amounts hW hl0A).2.1 (wf_Numbers_amounts hW hl0A).2.2 i12 rfl dX8_takeFromOthers_53 ?_
            refine wk_lmul C dX8_takeFromOthers_54 rfl ?_
            refine wk_lsub C dX8_takeFromOthers_55 rfl ?_
            obtain ⟨i13, h⟩ := h
            obtain ⟨S14, eS14, h⟩ := wkLt_some h
            refine wk_last C (wf_Numbers_amounts hW hl0A).2.1 (wf_Numbers_amounts hW hl0A).2.2 i13 eS14.symm dX8_takeFromOthers_56 ?_
            have hWS14 : wkWF S14 := by rw [eS14]; exact hW
            have hXS14 : wkExt S S14 := by rw [eS14]; exact wkExt.rf
            refine wk_iconst C (v := 0) dX8_takeFromOthers_57 (by decide) ?_
            refine wk_istore C (lv' := [some (.ref l0A), some (.int l1I), some (.int l2I), some (.long x10), none, some (.int (0 : Int32))]) dX8_takeFromOthers_58 (by decide) rfl ?_
            exact wk_forget (lv' := [some (.ref l0A), some (.int l1I), some (.int l2I), some (.long x10), none, some (.int (0 : Int32))]) (wkLs.le ⟨rfl, rfl, rfl, rfl, rfl, trivial⟩) (ih.2 _ _ _ _ _ _ hWS14 (wkExt.tr hE hXS14) (hXS14 _ _ hl0A) h)
    · intro l0A l1I l2I l3J l5I S hW hE hl0A h
      have h : rX8_takeFromOthers_b1 F (rX8_takeFromOthers_go F k') l0A l1I l2I l3J l5I S Φ := by
        rw [rX8_takeFromOthers_go, if_neg (show ¬ (1 : Nat) = 0 by decide), if_pos (rfl : (1 : Nat) = 1)] at h
        exact h
      unfold rX8_takeFromOthers_b1 at h
      refine wk_iload C dX8_takeFromOthers_60 rfl ?_
      refine wk_iconst C (v := 4) dX8_takeFromOthers_62 (by decide) ?_
      refine wk_icmp_ge C (tgt := 95) dX8_takeFromOthers_63 (by decide) (fun c15 => ?_) (fun c15 => ?_)
      · rw [if_pos c15] at h
        obtain ⟨x16, ex16, h⟩ := wkLt_some h
        refine wk_iinc C (lv' := [some (.ref l0A), some (.int l1I), some (.int x16), some (.long l3J), none, some (.int l5I)]) dX8_takeFromOthers_95 rfl (by rw [ex16]; rfl) (by decide) rfl ?_
        refine wk_goto C (tgt := 2) dX8_takeFromOthers_98 (by decide) ?_
        exact wk_forget (lv' := [some (.ref l0A), some (.int l1I), some (.int x16), none, none, none]) (wkLs.le ⟨rfl, rfl, rfl, trivial⟩) (ih.1 _ _ _ _ hW hE hl0A h)
      · rw [if_neg c15] at h
        refine wk_aload_n C dX8_takeFromOthers_66 rfl rfl ?_
        refine wk_get C huX8_takeFromOthers_8 hl0A.1 (fun cy => wAt_8 cy _ hl0A.2) rfl 1 (by decide) (List.mem_of_getElem? (i := 3) rfl) rfl (congrArg some (congrArg va_rf (wf_Numbers_basis hW hl0A).1)) dX8_takeFromOthers_67 ?_
        refine wk_iload_n C dX8_takeFromOthers_70 rfl rfl ?_
        obtain ⟨i17, h⟩ := h
        have w18 := wf_R_J hW (wf_Numbers_basis hW hl0A).2 (Nat.not_le.mp fun q => i17 (Or.inr q))
        refine wk_aald_J C (wf_Numbers_basis hW hl0A).2.1 (wf_Numbers_basis hW hl0A).2.2 i17 w18.1 dX8_takeFromOthers_71 ?_
        refine wk_iload C dX8_takeFromOthers_72 rfl ?_
        refine wk_dup2 C dX8_takeFromOthers_74 rfl rfl ?_
        obtain ⟨i19, h⟩ := h
        refine wk_lald C w18.2.1 w18.2.2 i19 rfl dX8_takeFromOthers_75 ?_
        refine wk_lload_n C dX8_takeFromOthers_76 rfl rfl ?_
        refine wk_aload_n C dX8_takeFromOthers_77 rfl rfl ?_
        refine wk_get C huX8_takeFromOthers_8 hl0A.1 (fun cy => wAt_8 cy _ hl0A.2) rfl 1 (by decide) (List.mem_of_getElem? (i := 3) rfl) rfl (congrArg some (congrArg va_rf (wf_Numbers_basis hW hl0A).1)) dX8_takeFromOthers_78 ?_
        refine wk_iload_n C dX8_takeFromOthers_81 rfl rfl ?_
        obtain ⟨i20, h⟩ := h
        have w21 := wf_R_J hW (wf_Numbers_basis hW hl0A).2 (Nat.not_le.mp fun q => i20 (Or.inr q))
        refine wk_aald_J C (wf_Numbers_basis hW hl0A).2.1 (wf_Numbers_basis hW hl0A).2.2 i20 w21.1 dX8_takeFromOthers_82 ?_
        refine wk_iload C dX8_takeFromOthers_83 rfl ?_
        obtain ⟨i22, h⟩ := h
        refine wk_lald C w21.2.1 w21.2.2 i22 rfl dX8_takeFromOthers_85 ?_
        refine wk_lmul C dX8_takeFromOthers_86 rfl ?_
        refine wk_lsub C dX8_takeFromOthers_87 rfl ?_
        obtain ⟨i23, h⟩ := h
        obtain ⟨S24, eS24, h⟩ := wkLt_some h
        refine wk_last C w18.2.1 w18.2.2 i23 eS24.symm dX8_takeFromOthers_88 ?_
        have hWS24 : wkWF S24 := by rw [eS24]; exact hW
        have hXS24 : wkExt S S24 := by rw [eS24]; exact wkExt.rf
        obtain ⟨x25, ex25, h⟩ := wkLt_some h
        refine wk_iinc C (lv' := [some (.ref l0A), some (.int l1I), some (.int l2I), some (.long l3J), none, some (.int x25)]) dX8_takeFromOthers_89 rfl (by rw [ex25]; rfl) (by decide) rfl ?_
        refine wk_goto C (tgt := 60) dX8_takeFromOthers_92 (by decide) ?_
        exact wk_forget (lv' := [some (.ref l0A), some (.int l1I), some (.int l2I), some (.long l3J), none, some (.int x25)]) (wkLs.le ⟨rfl, rfl, rfl, rfl, rfl, trivial⟩) (ih.2 _ _ _ _ _ _ hWS24 (wkExt.tr hE hXS24) (hXS24 _ _ hl0A) h)
set_option maxHeartbeats 4000000 in
set_option maxRecDepth 100000 in
theorem tX8_takeFromOthers {l : Launch} {g : wkG} {F : Nat}  {S : wPS} {l0A : Nat} {l1I : Int32} {Φ : (Unit → wPS → Prop)} (hW : wkWF S) (hl0A : wkIs S l0A 8) (h : rX8_takeFromOthers F l0A l1I S Φ) : wkMet l g yX8_takeFromOthers wvX8_takeFromOthers 0 0 0 [.ref l0A, .int l1I] S (fun v' S'' => ∃ v : Unit, v' = none ∧ Φ v S'' ∧ wkWF S'' ∧ wkExt S S'') := by
  refine wkMet_of (ret := none) (by decide) rfl (Nat.le_of_ble_eq_true rfl) (fun X hg C hR E => ?_)
  subst hg
  have hE : wkExt S S := wkExt.rf
  have hd : 0 ≤ 0 := Nat.le_refl _
  show wkGo l X 6 0 0 0 S [some (.ref l0A), some (.int l1I), none, none, none, none] []
  have ih := tX8_takeFromOthers_go (F := F) C hR hd E F
  have h : rX8_takeFromOthers_s F (rX8_takeFromOthers_go F F) l0A l1I S Φ := h
  unfold rX8_takeFromOthers_s at h
  refine wk_iconst C (v := 0) dX8_takeFromOthers_0 (by decide) ?_
  refine wk_istore_n C (lv' := [some (.ref l0A), some (.int l1I), some (.int (0 : Int32)), none, none, none]) dX8_takeFromOthers_1 rfl (by decide) rfl ?_
  exact wk_forget (lv' := [some (.ref l0A), some (.int l1I), some (.int (0 : Int32)), none, none, none]) (wkLs.le ⟨rfl, rfl, rfl, trivial⟩) (ih.1 _ _ _ _ hW hE hl0A h)
