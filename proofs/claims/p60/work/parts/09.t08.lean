def wvX5_begin : List Cond := .code yX5_begin cX5_begin 3 none :: (([.fieldLink RX5 86 "Witnessworks$Inequalities" "columns" "I", .fieldLink RX5 20 "Witnessworks$Inequalities" "columnLabels" "[I", .fieldLink RX5 83 "Witnessworks$Inequalities" "rows" "I", .fieldLink RX5 16 "Witnessworks$Inequalities" "rowLabels" "[I", .fieldLink RX5 13 "Witnessworks$Inequalities" "table" "[[J", .fieldLink RX5 47 "Witnessworks$Inequalities" "lower" "J", .fieldLink RX5 111 "Witnessworks$Inequalities" "locked" "I"] : List Cond) ++ ((wsX50) ++ ([])))
theorem huX5_begin_5 : ∀ w ∈ u_ws RX5 TX5 7, w ∈ wvX5_begin := fun w h => List.mem_cons_of_mem _ (List.mem_append_right _ (List.mem_append_left _ h))
theorem gdX5_begin : ∀ w ∈ wvX5_begin, wkGd w := wkGdC rfl (wkGdA (wkGdL (by decide +kernel)) (wkGdA gdX5 (fun _ h => absurd h List.not_mem_nil)))
def rX5_begin_b0 (F : Nat) (rec : Nat → Nat → Int32 → Int32 → wPS → (Unit → wPS → Prop) → Prop) (l0A : Nat) (l1I : Int32) (S : wPS) (Φ : (Unit → wPS → Prop)) : Prop :=
  if (gInequalities_columns S l0A) ≤ l1I then (rec 1 l0A (0 : Int32) 0 S Φ) else (¬ (l1I < 0 ∨ S.len (wkAd (gInequalities_columnLabels S l0A)) ≤ (l1I).toNatClampNeg) ∧ wkLt (wuI S (wkAd (gInequalities_columnLabels S l0A)) l1I l1I) fun S3 => wkLt (l1I + (1 : Int32)) fun x4 => rec 0 l0A x4 0 S3 Φ)
def rX5_begin_b1 (F : Nat) (rec : Nat → Nat → Int32 → Int32 → wPS → (Unit → wPS → Prop) → Prop) (l0A : Nat) (l1I : Int32) (S : wPS) (Φ : (Unit → wPS → Prop)) : Prop :=
  if (gInequalities_rows S l0A) ≤ l1I then (Φ () S) else (¬ (l1I < 0 ∨ S.len (wkAd (gInequalities_rowLabels S l0A)) ≤ (l1I).toNatClampNeg) ∧ wkLt (wuI S (wkAd (gInequalities_rowLabels S l0A)) l1I ((gInequalities_columns S l0A) + l1I)) fun S7 => rec 2 l0A l1I (0 : Int32) S7 Φ)
def rX5_begin_b2 (F : Nat) (rec : Nat → Nat → Int32 → Int32 → wPS → (Unit → wPS → Prop) → Prop) (l0A : Nat) (l1I : Int32) (l2I : Int32) (S : wPS) (Φ : (Unit → wPS → Prop)) : Prop :=
  if (gInequalities_columns S l0A) < l2I then (wkLt (l1I + (1 : Int32)) fun x9 => rec 1 l0A x9 0 S Φ) else (¬ ((gInequalities_rows S l0A) < 0 ∨ S.len (wkAd (gInequalities_table S l0A)) ≤ ((gInequalities_rows S l0A)).toNatClampNeg) ∧ ¬ (l2I < 0 ∨ S.len (wkAd (S.rA (wkAd (gInequalities_table S l0A)) ((gInequalities_rows S l0A)).toNatClampNeg)) ≤ (l2I).toNatClampNeg) ∧ ¬ (l1I < 0 ∨ S.len (wkAd (gInequalities_table S l0A)) ≤ (l1I).toNatClampNeg) ∧ ¬ (l2I < 0 ∨ S.len (wkAd (S.rA (wkAd (gInequalities_table S l0A)) (l1I).toNatClampNeg)) ≤ (l2I).toNatClampNeg) ∧ ¬ (l2I < 0 ∨ S.len (wkAd (S.rA (wkAd (gInequalities_table S l0A)) ((gInequalities_rows S l0A)).toNatClampNeg)) ≤ (l2I).toNatClampNeg) ∧ wkLt (wuJ S (wkAd (S.rA (wkAd (gInequalities_table S l0A)) ((gInequalities_rows S l0A)).toNatClampNeg)) l2I ((S.rJ (wkAd (S.rA (wkAd (gInequalities_table S l0A)) ((gInequalities_rows S l0A)).toNatClampNeg)) (l2I).toNatClampNeg) + (S.rJ (wkAd (S.rA (wkAd (gInequalities_table S l0A)) (l1I).toNatClampNeg)) (l2I).toNatClampNeg))) fun S17 => wkLt (l2I + (1 : Int32)) fun x18 => rec 2 l0A l1I x18 S17 Φ)
def rX5_begin_go (F : Nat) : Nat → Nat → Nat → Int32 → Int32 → wPS → (Unit → wPS → Prop) → Prop
  | 0, _, _, _, _, _, _ => False
  | k' + 1, lab, l0A, l1I, l2I, S, Φ => if lab = 0 then rX5_begin_b0 F (rX5_begin_go F k') l0A l1I S Φ else if lab = 1 then rX5_begin_b1 F (rX5_begin_go F k') l0A l1I S Φ else if lab = 2 then rX5_begin_b2 F (rX5_begin_go F k') l0A l1I l2I S Φ else False
def rX5_begin_s (F : Nat) (rec : Nat → Nat → Int32 → Int32 → wPS → (Unit → wPS → Prop) → Prop) (l0A : Nat) (S : wPS) (Φ : (Unit → wPS → Prop)) : Prop :=
  wkLt (wu_Inequalities_lower S l0A (1 : Int64)) fun S19 => wkLt (wu_Inequalities_locked S19 l0A (0 : Int32)) fun S20 => rec 0 l0A (0 : Int32) 0 S20 Φ
def rX5_begin (F : Nat) (l0A : Nat) (S : wPS) (Φ : (Unit → wPS → Prop)) : Prop := rX5_begin_s F (rX5_begin_go F F) l0A S Φ
set_option maxHeartbeats 4000000 in
set_option maxRecDepth 100000 in
theorem tX5_begin_go {l : Launch} {X : wkX} {d F : Nat} {S0 : wPS} {Φ : (Unit → wPS → Prop)} (C : wkC X cX5_begin RX5 3 wvX5_begin) (hR : wkRm X d 0 0) (hd : 0 ≤ d) (E : wkEnd l X cX5_begin 3 none 0 0 (fun v' S'' => ∃ v : Unit, v' = none ∧ Φ v S'' ∧ wkWF S'' ∧ wkExt S0 S'')) : ∀ k' : Nat, (∀ (l0A : Nat) (l1I : Int32) (S : wPS), wkWF S → wkExt S0 S → wkIs S l0A 5 → rX5_begin_go F k' 0 l0A l1I 0 S Φ → wkGo l X 3 0 0 12 S [some (.ref l0A), some (.int l1I), none] []) ∧ (∀ (l0A : Nat) (l1I : Int32) (S : wPS), wkWF S → wkExt S0 S → wkIs S l0A 5 → rX5_begin_go F k' 1 l0A l1I 0 S Φ → wkGo l X 3 0 0 35 S [some (.ref l0A), some (.int l1I), none] []) ∧ (∀ (l0A : Nat) (l1I : Int32) (l2I : Int32) (S : wPS), wkWF S → wkExt S0 S → wkIs S l0A 5 → rX5_begin_go F k' 2 l0A l1I l2I S Φ → wkGo l X 3 0 0 57 S [some (.ref l0A), some (.int l1I), some (.int l2I)] []) := by
  intro k'
  induction k' with
  | zero => exact ⟨fun l0A l1I S hW hE hl0A h => h.elim, fun l0A l1I S hW hE hl0A h => h.elim, fun l0A l1I l2I S hW hE hl0A h => h.elim⟩
  | succ k' ih =>
    refine ⟨?_, ?_, ?_⟩
    · intro l0A l1I S hW hE hl0A h
      have h : rX5_begin_b0 F (rX5_begin_go F k') l0A l1I S Φ := by
        rw [rX5_begin_go, if_pos (rfl : (0 : Nat) = 0)] at h
        exact h
      unfold rX5_begin_b0 at h
      refine wk_iload_n C dX5_begin_12 rfl rfl ?_
      refine wk_aload_n C dX5_begin_13 rfl rfl ?_
      refine wk_get C (v := .int (gInequalities_columns S l0A)) huX5_begin_5 hl0A.1 (fun cy => wAt_5 cy _ hl0A.2) rfl 5 (by decide) (List.mem_of_getElem? (i := 1) rfl) rfl rfl dX5_begin_14 ?_
      refine wk_icmp_ge C (tgt := 33) dX5_begin_17 (by decide) (fun c1 => ?_) (fun c1 => ?_)
      · rw [if_pos c1] at h
        refine wk_iconst C (v := 0) dX5_begin_33 (by decide) ?_
        refine wk_istore_n C (lv' := [some (.ref l0A), some (.int (0 : Int32)), none]) dX5_begin_34 rfl (by decide) rfl ?_
        exact wk_forget (lv' := [some (.ref l0A), some (.int (0 : Int32)), none]) (wkLs.le ⟨rfl, rfl, trivial⟩) (ih.2.1 _ _ _ hW hE hl0A h)
      · rw [if_neg c1] at h
        refine wk_aload_n C dX5_begin_20 rfl rfl ?_
        refine wk_get C huX5_begin_5 hl0A.1 (fun cy => wAt_5 cy _ hl0A.2) rfl 2 (by decide) (List.mem_of_getElem? (i := 2) rfl) rfl (congrArg some (congrArg va_rf (wf_Inequalities_columnLabels hW hl0A).1)) dX5_begin_21 ?_
        refine wk_iload_n C dX5_begin_24 rfl rfl ?_
        refine wk_iload_n C dX5_begin_25 rfl rfl ?_
        obtain ⟨i2, h⟩ := h
        obtain ⟨S3, eS3, h⟩ := wkLt_some h
        refine wk_iast C (wf_Inequalities_columnLabels hW hl0A).2.1 (wf_Inequalities_columnLabels hW hl0A).2.2 i2 eS3.symm dX5_begin_26 ?_
        have hWS3 : wkWF S3 := by rw [eS3]; exact hW
        have hXS3 : wkExt S S3 := by rw [eS3]; exact wkExt.rf
        obtain ⟨x4, ex4, h⟩ := wkLt_some h
        refine wk_iinc C (lv' := [some (.ref l0A), some (.int x4), none]) dX5_begin_27 rfl (by rw [ex4]; rfl) (by decide) rfl ?_
        refine wk_goto C (tgt := 12) dX5_begin_30 (by decide) ?_
        exact wk_forget (lv' := [some (.ref l0A), some (.int x4), none]) (wkLs.le ⟨rfl, rfl, trivial⟩) (ih.1 _ _ _ hWS3 (wkExt.tr hE hXS3) (hXS3 _ _ hl0A) h)
    · intro l0A l1I S hW hE hl0A h
      have h : rX5_begin_b1 F (rX5_begin_go F k') l0A l1I S Φ := by
        rw [rX5_begin_go, if_neg (show ¬ (1 : Nat) = 0 by decide), if_pos (rfl : (1 : Nat) = 1)] at h
        exact h
      unfold rX5_begin_b1 at h
      refine wk_iload_n C dX5_begin_35 rfl rfl ?_
      refine wk_aload_n C dX5_begin_36 rfl rfl ?_
      refine wk_get C (v := .int (gInequalities_rows S l0A)) huX5_begin_5 hl0A.1 (fun cy => wAt_5 cy _ hl0A.2) rfl 4 (by decide) (List.mem_of_getElem? (i := 3) rfl) rfl rfl dX5_begin_37 ?_
      refine wk_icmp_ge C (tgt := 99) dX5_begin_40 (by decide) (fun c5 => ?_) (fun c5 => ?_)
      · rw [if_pos c5] at h
        exact E _ _ _ _ _ (Nat.le_refl 0) (Nat.le_refl 0) dX5_begin_99 ⟨(), rfl, h, hW, hE⟩
      · rw [if_neg c5] at h
        refine wk_aload_n C dX5_begin_43 rfl rfl ?_
        refine wk_get C huX5_begin_5 hl0A.1 (fun cy => wAt_5 cy _ hl0A.2) rfl 1 (by decide) (List.mem_of_getElem? (i := 4) rfl) rfl (congrArg some (congrArg va_rf (wf_Inequalities_rowLabels hW hl0A).1)) dX5_begin_44 ?_
        refine wk_iload_n C dX5_begin_47 rfl rfl ?_
        refine wk_aload_n C dX5_begin_48 rfl rfl ?_
        refine wk_get C (v := .int (gInequalities_columns S l0A)) huX5_begin_5 hl0A.1 (fun cy => wAt_5 cy _ hl0A.2) rfl 5 (by decide) (List.mem_of_getElem? (i := 1) rfl) rfl rfl dX5_begin_49 ?_
        refine wk_iload_n C dX5_begin_52 rfl rfl ?_
        refine wk_iadd C dX5_begin_53 rfl ?_
        obtain ⟨i6, h⟩ := h
        obtain ⟨S7, eS7, h⟩ := wkLt_some h
        refine wk_iast C (wf_Inequalities_rowLabels hW hl0A).2.1 (wf_Inequalities_rowLabels hW hl0A).2.2 i6 eS7.symm dX5_begin_54 ?_
        have hWS7 : wkWF S7 := by rw [eS7]; exact hW
        have hXS7 : wkExt S S7 := by rw [eS7]; exact wkExt.rf
        refine wk_iconst C (v := 0) dX5_begin_55 (by decide) ?_
        refine wk_istore_n C (lv' := [some (.ref l0A), some (.int l1I), some (.int (0 : Int32))]) dX5_begin_56 rfl (by decide) rfl ?_
        exact wk_forget (lv' := [some (.ref l0A), some (.int l1I), some (.int (0 : Int32))]) (wkLs.le ⟨rfl, rfl, rfl, trivial⟩) (ih.2.2 _ _ _ _ hWS7 (wkExt.tr hE hXS7) (hXS7 _ _ hl0A) h)
    · intro l0A l1I l2I S hW hE hl0A h
      have h : rX5_begin_b2 F (rX5_begin_go F k') l0A l1I l2I S Φ := by
        rw [rX5_begin_go, if_neg (show ¬ (2 : Nat) = 0 by decide), if_neg (show ¬ (2 : Nat) = 1 by decide), if_pos (rfl : (2 : Nat) = 2)] at h
        exact h
      unfold rX5_begin_b2 at h
      refine wk_iload_n C dX5_begin_57 rfl rfl ?_
      refine wk_aload_n C dX5_begin_58 rfl rfl ?_
      refine wk_get C (v := .int (gInequalities_columns S l0A)) huX5_begin_5 hl0A.1 (fun cy => wAt_5 cy _ hl0A.2) rfl 5 (by decide) (List.mem_of_getElem? (i := 1) rfl) rfl rfl dX5_begin_59 ?_
      refine wk_icmp_gt C (tgt := 93) dX5_begin_62 (by decide) (fun c8 => ?_) (fun c8 => ?_)
      · rw [if_pos c8] at h
        obtain ⟨x9, ex9, h⟩ := wkLt_some h
        refine wk_iinc C (lv' := [some (.ref l0A), some (.int x9), some (.int l2I)]) dX5_begin_93 rfl (by rw [ex9]; rfl) (by decide) rfl ?_
        refine wk_goto C (tgt := 35) dX5_begin_96 (by decide) ?_
        exact wk_forget (lv' := [some (.ref l0A), some (.int x9), none]) (wkLs.le ⟨rfl, rfl, trivial⟩) (ih.2.1 _ _ _ hW hE hl0A h)
      · rw [if_neg c8] at h
        refine wk_aload_n C dX5_begin_65 rfl rfl ?_
        refine wk_get C huX5_begin_5 hl0A.1 (fun cy => wAt_5 cy _ hl0A.2) rfl 0 (by decide) (List.mem_of_getElem? (i := 5) rfl) rfl (congrArg some (congrArg va_rf (wf_Inequalities_table hW hl0A).1)) dX5_begin_66 ?_
        refine wk_aload_n C dX5_begin_69 rfl rfl ?_
        refine wk_get C (v := .int (gInequalities_rows S l0A)) huX5_begin_5 hl0A.1 (fun cy => wAt_5 cy _ hl0A.2) rfl 4 (by decide) (List.mem_of_getElem? (i := 3) rfl) rfl rfl dX5_begin_70 ?_
        obtain ⟨i10, h⟩ := h
        have w11 := wf_R_J hW (wf_Inequalities_table hW hl0A).2 (Nat.not_le.mp fun q => i10 (Or.inr q))
        refine wk_aald_J C (wf_Inequalities_table hW hl0A).2.1 (wf_Inequalities_table hW hl0A).2.2 i10 w11.1 dX5_begin_73 ?_
        refine wk_iload_n C dX5_begin_74 rfl rfl ?_
        refine wk_dup2 C dX5_begin_75 rfl rfl ?_
        obtain ⟨i12, h⟩ := h
        refine wk_lald C w11.2.1 w11.2.2 i12 rfl dX5_begin_76 ?_
        refine wk_aload_n C dX5_begin_77 rfl rfl ?_
        refine wk_get C huX5_begin_5 hl0A.1 (fun cy => wAt_5 cy _ hl0A.2) rfl 0 (by decide) (List.mem_of_getElem? (i := 5) rfl) rfl (congrArg some (congrArg va_rf (wf_Inequalities_table hW hl0A).1)) dX5_begin_78 ?_
        refine wk_iload_n C dX5_begin_81 rfl rfl ?_
        obtain ⟨i13, h⟩ := h
        have w14 := wf_R_J hW (wf_Inequalities_table hW hl0A).2 (Nat.not_le.mp fun q => i13 (Or.inr q))
        refine wk_aald_J C (wf_Inequalities_table hW hl0A).2.1 (wf_Inequalities_table hW hl0A).2.2 i13 w14.1 dX5_begin_82 ?_
        refine wk_iload_n C dX5_begin_83 rfl rfl ?_
        obtain ⟨i15, h⟩ := h
        refine wk_lald C w14.2.1 w14.2.2 i15 rfl dX5_begin_84 ?_
        refine wk_ladd C dX5_begin_85 rfl ?_
        obtain ⟨i16, h⟩ := h
        obtain ⟨S17, eS17, h⟩ := wkLt_some h
        refine wk_last C w11.2.1 w11.2.2 i16 eS17.symm dX5_begin_86 ?_
        have hWS17 : wkWF S17 := by rw [eS17]; exact hW
        have hXS17 : wkExt S S17 := by rw [eS17]; exact wkExt.rf
        obtain ⟨x18, ex18, h⟩ := wkLt_some h
        refine wk_iinc C (lv' := [some (.ref l0A), some (.int l1I), some (.int x18)]) dX5_begin_87 rfl (by rw [ex18]; rfl) (by decide) rfl ?_
        refine wk_goto C (tgt := 57) dX5_begin_90 (by decide) ?_
        exact wk_forget (lv' := [some (.ref l0A), some (.int l1I), some (.int x18)]) (wkLs.le ⟨rfl, rfl, rfl, trivial⟩) (ih.2.2 _ _ _ _ hWS17 (wkExt.tr hE hXS17) (hXS17 _ _ hl0A) h)
set_option maxHeartbeats 4000000 in
set_option maxRecDepth 100000 in
theorem tX5_begin {l : Launch} {g : wkG} {F : Nat}  {S : wPS} {l0A : Nat} {Φ : (Unit → wPS → Prop)} (hW : wkWF S) (hl0A : wkIs S l0A 5) (h : rX5_begin F l0A S Φ) : wkMet l g yX5_begin wvX5_begin 0 0 0 [.ref l0A] S (fun v' S'' => ∃ v : Unit, v' = none ∧ Φ v S'' ∧ wkWF S'' ∧ wkExt S S'') := by
  refine wkMet_of (ret := none) (by decide) rfl (Nat.le_of_ble_eq_true rfl) (fun X hg C hR E => ?_)
  subst hg
  have hE : wkExt S S := wkExt.rf
  have hd : 0 ≤ 0 := Nat.le_refl _
  show wkGo l X 3 0 0 0 S [some (.ref l0A), none, none] []
  have ih := tX5_begin_go (F := F) C hR hd E F
  have h : rX5_begin_s F (rX5_begin_go F F) l0A S Φ := h
  unfold rX5_begin_s at h
  refine wk_aload_n C dX5_begin_0 rfl rfl ?_
  refine wk_lconst C (v := 1) dX5_begin_1 (by decide) ?_
  obtain ⟨S19, eS19, h⟩ := wkLt_some h
  refine wk_put C (S' := S19) huX5_begin_5 hl0A.1 (fun cy => wAt_5 cy _ hl0A.2) rfl 6 (by decide) (List.mem_of_getElem? (i := 6) rfl) rfl tyX5_ok nmX5 rfl (ty := .long) rfl rfl rfl (by show 6 < 7; decide) (fun cy b => by rw [eS19]; exact wSt_5_6 cy _ hl0A.2 _ b) (by rw [eS19]) dX5_begin_2 ?_
  have hWS19 : wkWF S19 := by rw [eS19]; exact hW
  have hXS19 : wkExt S S19 := by rw [eS19]; exact wkExt.rf
  refine wk_aload_n C dX5_begin_5 rfl rfl ?_
  refine wk_iconst C (v := 0) dX5_begin_6 (by decide) ?_
  obtain ⟨S20, eS20, h⟩ := wkLt_some h
  refine wk_put C (S' := S20) huX5_begin_5 (hXS19 _ _ hl0A).1 (fun cy => wAt_5 cy _ (hXS19 _ _ hl0A).2) rfl 3 (by decide) (List.mem_of_getElem? (i := 7) rfl) rfl tyX5_ok nmX5 rfl (ty := .int) rfl rfl rfl (by show 3 < 7; decide) (fun cy b => by rw [eS20]; exact wSt_5_3 cy _ (hXS19 _ _ hl0A).2 _ b) (by rw [eS20]) dX5_begin_7 ?_
  have hWS20 : wkWF S20 := by rw [eS20]; exact hWS19
  have hXS20 : wkExt S19 S20 := by rw [eS20]; exact wkExt.rf
  refine wk_iconst C (v := 0) dX5_begin_10 (by decide) ?_
  refine wk_istore_n C (lv' := [some (.ref l0A), some (.int (0 : Int32)), none]) dX5_begin_11 rfl (by decide) rfl ?_
  exact wk_forget (lv' := [some (.ref l0A), some (.int (0 : Int32)), none]) (wkLs.le ⟨rfl, rfl, trivial⟩) (ih.1 _ _ _ hWS20 (wkExt.tr (wkExt.tr hE hXS19) hXS20) (hXS20 _ _ (hXS19 _ _ hl0A)) h)
def wvX5_lockRising : List Cond := .code yX5_lockRising cX5_lockRising 3 none :: (([.fieldLink RX5 86 "Witnessworks$Inequalities" "columns" "I", .fieldLink RX5 13 "Witnessworks$Inequalities" "table" "[[J", .fieldLink RX5 111 "Witnessworks$Inequalities" "locked" "I", .fieldLink RX5 20 "Witnessworks$Inequalities" "columnLabels" "[I"] : List Cond) ++ ((wsX50) ++ ([])))
theorem huX5_lockRising_5 : ∀ w ∈ u_ws RX5 TX5 7, w ∈ wvX5_lockRising := fun w h => List.mem_cons_of_mem _ (List.mem_append_right _ (List.mem_append_left _ h))
theorem gdX5_lockRising : ∀ w ∈ wvX5_lockRising, wkGd w := wkGdC rfl (wkGdA (wkGdL (by decide +kernel)) (wkGdA gdX5 (fun _ h => absurd h List.not_mem_nil)))
def rX5_lockRising_b0 (F : Nat) (rec : Nat → Nat → Int32 → Int32 → wPS → (Unit → wPS → Prop) → Prop) (l0A : Nat) (l1I : Int32) (l2I : Int32) (S : wPS) (Φ : (Unit → wPS → Prop)) : Prop :=
  if (gInequalities_columns S l0A) ≤ l2I then (Φ () S) else (¬ (l1I < 0 ∨ S.len (wkAd (gInequalities_table S l0A)) ≤ (l1I).toNatClampNeg) ∧ ¬ (l2I < 0 ∨ S.len (wkAd (S.rA (wkAd (gInequalities_table S l0A)) (l1I).toNatClampNeg)) ≤ (l2I).toNatClampNeg) ∧ if 0 ≤ (lg_cmp (S.rJ (wkAd (S.rA (wkAd (gInequalities_table S l0A)) (l1I).toNatClampNeg)) (l2I).toNatClampNeg) (0 : Int64)) then (wkLt (l2I + (1 : Int32)) fun x6 => rec 0 l0A l1I x6 S Φ) else (¬ (l2I < 0 ∨ S.len (wkAd (gInequalities_columnLabels S l0A)) ≤ (l2I).toNatClampNeg) ∧ wkLt (wu_Inequalities_locked S l0A ((gInequalities_locked S l0A) ||| ((1 : Int32) <<< ((S.rI (wkAd (gInequalities_columnLabels S l0A)) (l2I).toNatClampNeg) &&& 31)))) fun S8 => wkLt (l2I + (1 : Int32)) fun x9 => rec 0 l0A l1I x9 S8 Φ))
def rX5_lockRising_go (F : Nat) : Nat → Nat → Nat → Int32 → Int32 → wPS → (Unit → wPS → Prop) → Prop
  | 0, _, _, _, _, _, _ => False
  | k' + 1, lab, l0A, l1I, l2I, S, Φ => if lab = 0 then rX5_lockRising_b0 F (rX5_lockRising_go F k') l0A l1I l2I S Φ else False
def rX5_lockRising_s (F : Nat) (rec : Nat → Nat → Int32 → Int32 → wPS → (Unit → wPS → Prop) → Prop) (l0A : Nat) (l1I : Int32) (S : wPS) (Φ : (Unit → wPS → Prop)) : Prop :=
  rec 0 l0A l1I (0 : Int32) S Φ
def rX5_lockRising (F : Nat) (l0A : Nat) (l1I : Int32) (S : wPS) (Φ : (Unit → wPS → Prop)) : Prop := rX5_lockRising_s F (rX5_lockRising_go F F) l0A l1I S Φ
set_option maxHeartbeats 4000000 in
set_option maxRecDepth 100000 in
theorem tX5_lockRising_go {l : Launch} {X : wkX} {d F : Nat} {S0 : wPS} {Φ : (Unit → wPS → Prop)} (C : wkC X cX5_lockRising RX5 3 wvX5_lockRising) (hR : wkRm X d 0 0) (hd : 0 ≤ d) (E : wkEnd l X cX5_lockRising 3 none 0 0 (fun v' S'' => ∃ v : Unit, v' = none ∧ Φ v S'' ∧ wkWF S'' ∧ wkExt S0 S'')) : ∀ k' : Nat, (∀ (l0A : Nat) (l1I : Int32) (l2I : Int32) (S : wPS), wkWF S → wkExt S0 S → wkIs S l0A 5 → rX5_lockRising_go F k' 0 l0A l1I l2I S Φ → wkGo l X 3 0 0 2 S [some (.ref l0A), some (.int l1I), some (.int l2I)] []) := by
  intro k'
  induction k' with
  | zero => exact fun l0A l1I l2I S hW hE hl0A h => h.elim
  | succ k' ih =>
    · intro l0A l1I l2I S hW hE hl0A h
      have h : rX5_lockRising_b0 F (rX5_lockRising_go F k') l0A l1I l2I S Φ := by
        rw [rX5_lockRising_go, if_pos (rfl : (0 : Nat) = 0)] at h
        exact h
      unfold rX5_lockRising_b0 at h
      refine wk_iload_n C dX5_lockRising_2 rfl rfl ?_
      refine wk_aload_n C dX5_lockRising_3 rfl rfl ?_
      refine wk_get C (v := .int (gInequalities_columns S l0A)) huX5_lockRising_5 hl0A.1 (fun cy => wAt_5 cy _ hl0A.2) rfl 5 (by decide) (List.mem_of_getElem? (i := 1) rfl) rfl rfl dX5_lockRising_4 ?_
      refine wk_icmp_ge C (tgt := 46) dX5_lockRising_7 (by decide) (fun c1 => ?_) (fun c1 => ?_)
      · rw [if_pos c1] at h
        exact E _ _ _ _ _ (Nat.le_refl 0) (Nat.le_refl 0) dX5_lockRising_46 ⟨(), rfl, h, hW, hE⟩
      · rw [if_neg c1] at h
        refine wk_aload_n C dX5_lockRising_10 rfl rfl ?_
        refine wk_get C huX5_lockRising_5 hl0A.1 (fun cy => wAt_5 cy _ hl0A.2) rfl 0 (by decide) (List.mem_of_getElem? (i := 2) rfl) rfl (congrArg some (congrArg va_rf (wf_Inequalities_table hW hl0A).1)) dX5_lockRising_11 ?_
        refine wk_iload_n C dX5_lockRising_14 rfl rfl ?_
        obtain ⟨i2, h⟩ := h
        have w3 := wf_R_J hW (wf_Inequalities_table hW hl0A).2 (Nat.not_le.mp fun q => i2 (Or.inr q))
        refine wk_aald_J C (wf_Inequalities_table hW hl0A).2.1 (wf_Inequalities_table hW hl0A).2.2 i2 w3.1 dX5_lockRising_15 ?_
        refine wk_iload_n C dX5_lockRising_16 rfl rfl ?_
        obtain ⟨i4, h⟩ := h
        refine wk_lald C w3.2.1 w3.2.2 i4 rfl dX5_lockRising_17 ?_
        refine wk_lconst C (v := 0) dX5_lockRising_18 (by decide) ?_
        refine wk_lcmp C dX5_lockRising_19 rfl ?_
        refine wk_if_ge C (tgt := 40) dX5_lockRising_20 (by decide) (fun c5 => ?_) (fun c5 => ?_)
        · rw [if_pos c5] at h
          obtain ⟨x6, ex6, h⟩ := wkLt_some h
          refine wk_iinc C (lv' := [some (.ref l0A), some (.int l1I), some (.int x6)]) dX5_lockRising_40 rfl (by rw [ex6]; rfl) (by decide) rfl ?_
          refine wk_goto C (tgt := 2) dX5_lockRising_43 (by decide) ?_
          exact wk_forget (lv' := [some (.ref l0A), some (.int l1I), some (.int x6)]) (wkLs.le ⟨rfl, rfl, rfl, trivial⟩) (ih _ _ _ _ hW hE hl0A h)
        · rw [if_neg c5] at h
          refine wk_aload_n C dX5_lockRising_23 rfl rfl ?_
          refine wk_dup C dX5_lockRising_24 rfl ?_
          refine wk_get C (v := .int (gInequalities_locked S l0A)) huX5_lockRising_5 hl0A.1 (fun cy => wAt_5 cy _ hl0A.2) rfl 3 (by decide) (List.mem_of_getElem? (i := 3) rfl) rfl rfl dX5_lockRising_25 ?_
          refine wk_iconst C (v := 1) dX5_lockRising_28 (by decide) ?_
          refine wk_aload_n C dX5_lockRising_29 rfl rfl ?_
          refine wk_get C huX5_lockRising_5 hl0A.1 (fun cy => wAt_5 cy _ hl0A.2) rfl 2 (by decide) (List.mem_of_getElem? (i := 4) rfl) rfl (congrArg some (congrArg va_rf (wf_Inequalities_columnLabels hW hl0A).1)) dX5_lockRising_30 ?_
          refine wk_iload_n C dX5_lockRising_33 rfl rfl ?_
          obtain ⟨i7, h⟩ := h
          refine wk_iald C (wf_Inequalities_columnLabels hW hl0A).2.1 (wf_Inequalities_columnLabels hW hl0A).2.2 i7 rfl dX5_lockRising_34 ?_
          refine wk_ishl C dX5_lockRising_35 rfl ?_
          refine wk_ior C dX5_lockRising_36 rfl ?_
          obtain ⟨S8, eS8, h⟩ := wkLt_some h
          refine wk_put C (S' := S8) huX5_lockRising_5 hl0A.1 (fun cy => wAt_5 cy _ hl0A.2) rfl 3 (by decide) (List.mem_of_getElem? (i := 3) rfl) rfl tyX5_ok nmX5 rfl (ty := .int) rfl rfl rfl (by show 3 < 7; decide) (fun cy b => by rw [eS8]; exact wSt_5_3 cy _ hl0A.2 _ b) (by rw [eS8]) dX5_lockRising_37 ?_
          have hWS8 : wkWF S8 := by rw [eS8]; exact hW
          have hXS8 : wkExt S S8 := by rw [eS8]; exact wkExt.rf
          obtain ⟨x9, ex9, h⟩ := wkLt_some h
          refine wk_iinc C (lv' := [some (.ref l0A), some (.int l1I), some (.int x9)]) dX5_lockRising_40 rfl (by rw [ex9]; rfl) (by decide) rfl ?_
          refine wk_goto C (tgt := 2) dX5_lockRising_43 (by decide) ?_
          exact wk_forget (lv' := [some (.ref l0A), some (.int l1I), some (.int x9)]) (wkLs.le ⟨rfl, rfl, rfl, trivial⟩) (ih _ _ _ _ hWS8 (wkExt.tr hE hXS8) (hXS8 _ _ hl0A) h)
set_option maxHeartbeats 4000000 in
set_option maxRecDepth 100000 in
theorem tX5_lockRising {l : Launch} {g : wkG} {F : Nat}  {S : wPS} {l0A : Nat} {l1I : Int32} {Φ : (Unit → wPS → Prop)} (hW : wkWF S) (hl0A : wkIs S l0A 5) (h : rX5_lockRising F l0A l1I S Φ) : wkMet l g yX5_lockRising wvX5_lockRising 0 0 0 [.ref l0A, .int l1I] S (fun v' S'' => ∃ v : Unit, v' = none ∧ Φ v S'' ∧ wkWF S'' ∧ wkExt S S'') := by
  refine wkMet_of (ret := none) (by decide) rfl (Nat.le_of_ble_eq_true rfl) (fun X hg C hR E => ?_)
  subst hg
  have hE : wkExt S S := wkExt.rf
  have hd : 0 ≤ 0 := Nat.le_refl _
  show wkGo l X 3 0 0 0 S [some (.ref l0A), some (.int l1I), none] []
  have ih := tX5_lockRising_go (F := F) C hR hd E F
  have h : rX5_lockRising_s F (rX5_lockRising_go F F) l0A l1I S Φ := h
  unfold rX5_lockRising_s at h
  refine wk_iconst C (v := 0) dX5_lockRising_0 (by decide) ?_
  refine wk_istore_n C (lv' := [some (.ref l0A), some (.int l1I), some (.int (0 : Int32))]) dX5_lockRising_1 rfl (by decide) rfl ?_
  exact wk_forget (lv' := [some (.ref l0A), some (.int l1I), some (.int (0 : Int32))]) (wkLs.le ⟨rfl, rfl, rfl, trivial⟩) (ih _ _ _ _ hW hE hl0A h)
def wvX5_leavingRow : List Cond := .code yX5_leavingRow cX5_leavingRow 9 (some .int) :: (([.fieldLink RX5 83 "Witnessworks$Inequalities" "rows" "I", .fieldLink RX5 13 "Witnessworks$Inequalities" "table" "[[J", .methodLink RX5 133 Lib.Math.max.name, .static Lib.Math.max.name, .initialized "java/lang/Math", .code Lib.Math.max.name Lib.Math.max.code 2 (some .int), .fieldLink RX5 86 "Witnessworks$Inequalities" "columns" "I", .fieldLink RX5 16 "Witnessworks$Inequalities" "rowLabels" "[I"] : List Cond) ++ ((wsX50) ++ ([])))
theorem huX5_leavingRow_5 : ∀ w ∈ u_ws RX5 TX5 7, w ∈ wvX5_leavingRow := fun w h => List.mem_cons_of_mem _ (List.mem_append_right _ (List.mem_append_left _ h))
theorem gdX5_leavingRow : ∀ w ∈ wvX5_leavingRow, wkGd w := wkGdC rfl (wkGdA (wkGdL (by decide +kernel)) (wkGdA gdX5 (fun _ h => absurd h List.not_mem_nil)))
def rX5_leavingRow_b0 (F : Nat) (rec : Nat → Nat → Int32 → Int32 → Int32 → wPS → (Int32 → wPS → Prop) → Prop) (l0A : Nat) (l1I : Int32) (l2I : Int32) (l3I : Int32) (S : wPS) (Φ : (Int32 → wPS → Prop)) : Prop :=
  if (gInequalities_rows S l0A) ≤ l3I then (Φ l2I S) else (¬ (l3I < 0 ∨ S.len (wkAd (gInequalities_table S l0A)) ≤ (l3I).toNatClampNeg) ∧ ¬ (l1I < 0 ∨ S.len (wkAd (S.rA (wkAd (gInequalities_table S l0A)) (l3I).toNatClampNeg)) ≤ (l1I).toNatClampNeg) ∧ if (lg_cmp (S.rJ (wkAd (S.rA (wkAd (gInequalities_table S l0A)) (l3I).toNatClampNeg)) (l1I).toNatClampNeg) (0 : Int64)) ≤ 0 then (wkLt (l3I + (1 : Int32)) fun x6 => rec 0 l0A l1I l2I x6 S Φ) else (wkLt ((if l2I < (0 : Int32) then (0 : Int32) else l2I)) fun x7 => ¬ (l3I < 0 ∨ S.len (wkAd (gInequalities_table S l0A)) ≤ (l3I).toNatClampNeg) ∧ ¬ ((gInequalities_columns S l0A) < 0 ∨ S.len (wkAd (S.rA (wkAd (gInequalities_table S l0A)) (l3I).toNatClampNeg)) ≤ ((gInequalities_columns S l0A)).toNatClampNeg) ∧ ¬ (x7 < 0 ∨ S.len (wkAd (gInequalities_table S l0A)) ≤ (x7).toNatClampNeg) ∧ ¬ (l1I < 0 ∨ S.len (wkAd (S.rA (wkAd (gInequalities_table S l0A)) (x7).toNatClampNeg)) ≤ (l1I).toNatClampNeg) ∧ wkLt (((S.rJ (wkAd (S.rA (wkAd (gInequalities_table S l0A)) (l3I).toNatClampNeg)) ((gInequalities_columns S l0A)).toNatClampNeg) * (S.rJ (wkAd (S.rA (wkAd (gInequalities_table S l0A)) (x7).toNatClampNeg)) (l1I).toNatClampNeg))) fun x14 => ¬ (x7 < 0 ∨ S.len (wkAd (gInequalities_table S l0A)) ≤ (x7).toNatClampNeg) ∧ ¬ ((gInequalities_columns S l0A) < 0 ∨ S.len (wkAd (S.rA (wkAd (gInequalities_table S l0A)) (x7).toNatClampNeg)) ≤ ((gInequalities_columns S l0A)).toNatClampNeg) ∧ ¬ (l3I < 0 ∨ S.len (wkAd (gInequalities_table S l0A)) ≤ (l3I).toNatClampNeg) ∧ ¬ (l1I < 0 ∨ S.len (wkAd (S.rA (wkAd (gInequalities_table S l0A)) (l3I).toNatClampNeg)) ≤ (l1I).toNatClampNeg) ∧ wkLt (((S.rJ (wkAd (S.rA (wkAd (gInequalities_table S l0A)) (x7).toNatClampNeg)) ((gInequalities_columns S l0A)).toNatClampNeg) * (S.rJ (wkAd (S.rA (wkAd (gInequalities_table S l0A)) (l3I).toNatClampNeg)) (l1I).toNatClampNeg))) fun x21 => if l2I < 0 then (wkLt (l3I + (1 : Int32)) fun x23 => rec 0 l0A l1I l3I x23 S Φ) else (if (lg_cmp x14 x21) < 0 then (wkLt (l3I + (1 : Int32)) fun x25 => rec 0 l0A l1I l3I x25 S Φ) else (if (lg_cmp x14 x21) = 0 then (¬ (l3I < 0 ∨ S.len (wkAd (gInequalities_rowLabels S l0A)) ≤ (l3I).toNatClampNeg) ∧ ¬ (x7 < 0 ∨ S.len (wkAd (gInequalities_rowLabels S l0A)) ≤ (x7).toNatClampNeg) ∧ if (S.rI (wkAd (gInequalities_rowLabels S l0A)) (x7).toNatClampNeg) ≤ (S.rI (wkAd (gInequalities_rowLabels S l0A)) (l3I).toNatClampNeg) then (wkLt (l3I + (1 : Int32)) fun x31 => rec 0 l0A l1I l2I x31 S Φ) else (wkLt (l3I + (1 : Int32)) fun x32 => rec 0 l0A l1I l3I x32 S Φ)) else (wkLt (l3I + (1 : Int32)) fun x27 => rec 0 l0A l1I l2I x27 S Φ)))))
def rX5_leavingRow_go (F : Nat) : Nat → Nat → Nat → Int32 → Int32 → Int32 → wPS → (Int32 → wPS → Prop) → Prop
  | 0, _, _, _, _, _, _, _ => False
  | k' + 1, lab, l0A, l1I, l2I, l3I, S, Φ => if lab = 0 then rX5_leavingRow_b0 F (rX5_leavingRow_go F k') l0A l1I l2I l3I S Φ else False
def rX5_leavingRow_s (F : Nat) (rec : Nat → Nat → Int32 → Int32 → Int32 → wPS → (Int32 → wPS → Prop) → Prop) (l0A : Nat) (l1I : Int32) (S : wPS) (Φ : (Int32 → wPS → Prop)) : Prop :=
  rec 0 l0A l1I (-1 : Int32) (0 : Int32) S Φ
def rX5_leavingRow (F : Nat) (l0A : Nat) (l1I : Int32) (S : wPS) (Φ : (Int32 → wPS → Prop)) : Prop := rX5_leavingRow_s F (rX5_leavingRow_go F F) l0A l1I S Φ
set_option maxHeartbeats 4000000 in
set_option maxRecDepth 100000 in
theorem tX5_leavingRow_go {l : Launch} {X : wkX} {d F : Nat} {S0 : wPS} {Φ : (Int32 → wPS → Prop)} (C : wkC X cX5_leavingRow RX5 9 wvX5_leavingRow) (hR : wkRm X d 0 0) (hd : 1 ≤ d) (E : wkEnd l X cX5_leavingRow 9 (some .int) 0 0 (fun v' S'' => ∃ v : Int32, v' = some (.int v) ∧ Φ v S'' ∧ wkWF S'' ∧ wkExt S0 S'')) : ∀ k' : Nat, (∀ (l0A : Nat) (l1I : Int32) (l2I : Int32) (l3I : Int32) (S : wPS), wkWF S → wkExt S0 S → wkIs S l0A 5 → rX5_leavingRow_go F k' 0 l0A l1I l2I l3I S Φ → wkGo l X 9 0 0 4 S [some (.ref l0A), some (.int l1I), some (.int l2I), some (.int l3I), none, none, none, none, none] []) := by
  intro k'
  induction k' with
  | zero => exact fun l0A l1I l2I l3I S hW hE hl0A h => h.elim
  | succ k' ih =>
    · intro l0A l1I l2I l3I S hW hE hl0A h
      have h : rX5_leavingRow_b0 F (rX5_leavingRow_go F k') l0A l1I l2I l3I S Φ := by
        rw [rX5_leavingRow_go, if_pos (rfl : (0 : Nat) = 0)] at h
        exact h
      unfold rX5_leavingRow_b0 at h
      refine wk_iload_n C dX5_leavingRow_4 rfl rfl ?_
      refine wk_aload_n C dX5_leavingRow_5 rfl rfl ?_
      refine wk_get C (v := .int (gInequalities_rows S l0A)) huX5_leavingRow_5 hl0A.1 (fun cy => wAt_5 cy _ hl0A.2) rfl 4 (by decide) (List.mem_of_getElem? (i := 1) rfl) rfl rfl dX5_leavingRow_6 ?_
      refine wk_icmp_ge C (tgt := 122) dX5_leavingRow_9 (by decide) (fun c1 => ?_) (fun c1 => ?_)
      · rw [if_pos c1] at h
        refine wk_iload_n C dX5_leavingRow_122 rfl rfl ?_
        exact E _ _ _ _ _ _ (Nat.le_refl 0) (Nat.le_refl 0) dX5_leavingRow_123 ⟨l2I, rfl, h, hW, hE⟩
      · rw [if_neg c1] at h
        refine wk_aload_n C dX5_leavingRow_12 rfl rfl ?_
        refine wk_get C huX5_leavingRow_5 hl0A.1 (fun cy => wAt_5 cy _ hl0A.2) rfl 0 (by decide) (List.mem_of_getElem? (i := 2) rfl) rfl (congrArg some (congrArg va_rf (wf_Inequalities_table hW hl0A).1)) dX5_leavingRow_13 ?_
        refine wk_iload_n C dX5_leavingRow_16 rfl rfl ?_
        obtain ⟨i2, h⟩ := h
        have w3 := wf_R_J hW (wf_Inequalities_table hW hl0A).2 (Nat.not_le.mp fun q => i2 (Or.inr q))
        refine wk_aald_J C (wf_Inequalities_table hW hl0A).2.1 (wf_Inequalities_table hW hl0A).2.2 i2 w3.1 dX5_leavingRow_17 ?_
        refine wk_iload_n C dX5_leavingRow_18 rfl rfl ?_
        obtain ⟨i4, h⟩ := h
        refine wk_lald C w3.2.1 w3.2.2 i4 rfl dX5_leavingRow_19 ?_
        refine wk_lconst C (v := 0) dX5_leavingRow_20 (by decide) ?_
        refine wk_lcmp C dX5_leavingRow_21 rfl ?_
        refine wk_if_le C (tgt := 116) dX5_leavingRow_22 (by decide) (fun c5 => ?_) (fun c5 => ?_)
        · rw [if_pos c5] at h
          obtain ⟨x6, ex6, h⟩ := wkLt_some h
          refine wk_iinc C (lv' := [some (.ref l0A), some (.int l1I), some (.int l2I), some (.int x6), none, none, none, none, none]) dX5_leavingRow_116 rfl (by rw [ex6]; rfl) (by decide) rfl ?_
          refine wk_goto C (tgt := 4) dX5_leavingRow_119 (by decide) ?_
          exact wk_forget (lv' := [some (.ref l0A), some (.int l1I), some (.int l2I), some (.int x6), none, none, none, none, none]) (wkLs.le ⟨rfl, rfl, rfl, rfl, trivial⟩) (ih _ _ _ _ _ hW hE hl0A h)
        · rw [if_neg c5] at h
          refine wk_iload_n C dX5_leavingRow_25 rfl rfl ?_
          refine wk_iconst C (v := 0) dX5_leavingRow_26 (by decide) ?_
          refine wk_mmax C hR (List.mem_of_getElem? (i := 3) rfl) (List.mem_of_getElem? (i := 4) rfl) (List.mem_of_getElem? (i := 5) rfl) (List.mem_of_getElem? (i := 6) rfl) (Nat.le_trans (by decide) hd) (Nat.le_refl 0) (Nat.le_refl 0) (Nat.le_of_ble_eq_true rfl) rfl dX5_leavingRow_27 ?_
          obtain ⟨x7, ex7, h⟩ := wkLt_some h
          refine wk_topi ex7 ?_
          refine wk_istore C (lv' := [some (.ref l0A), some (.int l1I), some (.int l2I), some (.int l3I), some (.int x7), none, none, none, none]) dX5_leavingRow_30 (by decide) rfl ?_
          refine wk_aload_n C dX5_leavingRow_32 rfl rfl ?_
          refine wk_get C huX5_leavingRow_5 hl0A.1 (fun cy => wAt_5 cy _ hl0A.2) rfl 0 (by decide) (List.mem_of_getElem? (i := 2) rfl) rfl (congrArg some (congrArg va_rf (wf_Inequalities_table hW hl0A).1)) dX5_leavingRow_33 ?_
          refine wk_iload_n C dX5_leavingRow_36 rfl rfl ?_
          obtain ⟨i8, h⟩ := h
          have w9 := wf_R_J hW (wf_Inequalities_table hW hl0A).2 (Nat.not_le.mp fun q => i8 (Or.inr q))
          refine wk_aald_J C (wf_Inequalities_table hW hl0A).2.1 (wf_Inequalities_table hW hl0A).2.2 i8 w9.1 dX5_leavingRow_37 ?_
          refine wk_aload_n C dX5_leavingRow_38 rfl rfl ?_
          refine wk_get C (v := .int (gInequalities_columns S l0A)) huX5_leavingRow_5 hl0A.1 (fun cy => wAt_5 cy _ hl0A.2) rfl 5 (by decide) (List.mem_of_getElem? (i := 7) rfl) rfl rfl dX5_leavingRow_39 ?_
          obtain ⟨i10, h⟩ := h
          refine wk_lald C w9.2.1 w9.2.2 i10 rfl dX5_leavingRow_42 ?_
          refine wk_aload_n C dX5_leavingRow_43 rfl rfl ?_
          refine wk_get C huX5_leavingRow_5 hl0A.1 (fun cy => wAt_5 cy _ hl0A.2) rfl 0 (by decide) (List.mem_of_getElem? (i := 2) rfl) rfl (congrArg some (congrArg va_rf (wf_Inequalities_table hW hl0A).1)) dX5_leavingRow_44 ?_
          refine wk_iload C dX5_leavingRow_47 rfl ?_
          obtain ⟨i11, h⟩ := h
          have w12 := wf_R_J hW (wf_Inequalities_table hW hl0A).2 (Nat.not_le.mp fun q => i11 (Or.inr q))
          refine wk_aald_J C (wf_Inequalities_table hW hl0A).2.1 (wf_Inequalities_table hW hl0A).2.2 i11 w12.1 dX5_leavingRow_49 ?_
          refine wk_iload_n C dX5_leavingRow_50 rfl rfl ?_
          obtain ⟨i13, h⟩ := h
          refine wk_lald C w12.2.1 w12.2.2 i13 rfl dX5_leavingRow_51 ?_
          refine wk_lmul C dX5_leavingRow_52 rfl ?_
          obtain ⟨x14, ex14, h⟩ := wkLt_some h
          refine wk_topl ex14 ?_
          refine wk_lstore C (lv' := [some (.ref l0A), some (.int l1I), some (.int l2I), some (.int l3I), some (.int x7), some (.long x14), none, none, none]) dX5_leavingRow_53 (by decide) rfl ?_
          refine wk_aload_n C dX5_leavingRow_55 rfl rfl ?_
          refine wk_get C huX5_leavingRow_5 hl0A.1 (fun cy => wAt_5 cy _ hl0A.2) rfl 0 (by decide) (List.mem_of_getElem? (i := 2) rfl) rfl (congrArg some (congrArg va_rf (wf_Inequalities_table hW hl0A).1)) dX5_leavingRow_56 ?_
          refine wk_iload C dX5_leavingRow_59 rfl ?_
          obtain ⟨i15, h⟩ := h
          have w16 := wf_R_J hW (wf_Inequalities_table hW hl0A).2 (Nat.not_le.mp fun q => i15 (Or.inr q))
          refine wk_aald_J C (wf_Inequalities_table hW hl0A).2.1 (wf_Inequalities_table hW hl0A).2.2 i15 w16.1 dX5_leavingRow_61 ?_
          refine wk_aload_n C dX5_leavingRow_62 rfl rfl ?_
          refine wk_get C (v := .int (gInequalities_columns S l0A)) huX5_leavingRow_5 hl0A.1 (fun cy => wAt_5 cy _ hl0A.2) rfl 5 (by decide) (List.mem_of_getElem? (i := 7) rfl) rfl rfl dX5_leavingRow_63 ?_
          obtain ⟨i17, h⟩ := h
          refine wk_lald C w16.2.1 w16.2.2 i17 rfl dX5_leavingRow_66 ?_
          refine wk_aload_n C dX5_leavingRow_67 rfl rfl ?_
          refine wk_get C huX5_leavingRow_5 hl0A.1 (fun cy => wAt_5 cy _ hl0A.2) rfl 0 (by decide) (List.mem_of_getElem? (i := 2) rfl) rfl (congrArg some (congrArg va_rf (wf_Inequalities_table hW hl0A).1)) dX5_leavingRow_68 ?_
          refine wk_iload_n C dX5_leavingRow_71 rfl rfl ?_
          obtain ⟨i18, h⟩ := h
          have w19 := wf_R_J hW (wf_Inequalities_table hW hl0A).2 (Nat.not_le.mp fun q => i18 (Or.inr q))
          refine wk_aald_J C (wf_Inequalities_table hW hl0A).2.1 (wf_Inequalities_table hW hl0A).2.2 i18 w19.1 dX5_leavingRow_72 ?_
          refine wk_iload_n C dX5_leavingRow_73 rfl rfl ?_
          obtain ⟨i20, h⟩ := h
          refine wk_lald C w19.2.1 w19.2.2 i20 rfl dX5_leavingRow_74 ?_
          refine wk_lmul C dX5_leavingRow_75 rfl ?_
          obtain ⟨x21, ex21, h⟩ := wkLt_some h
          refine wk_topl ex21 ?_
          refine wk_lstore C (lv' := [some (.ref l0A), some (.int l1I), some (.int l2I), some (.int l3I), some (.int x7), some (.long x14), none, some (.long x21), none]) dX5_leavingRow_76 (by decide) rfl ?_
          refine wk_iload_n C dX5_leavingRow_78 rfl rfl ?_
          refine wk_if_lt C (tgt := 114) dX5_leavingRow_79 (by decide) (fun c22 => ?_) (fun c22 => ?_)
          · rw [if_pos c22] at h
            refine wk_iload_n C dX5_leavingRow_114 rfl rfl ?_
            refine wk_istore_n C (lv' := [some (.ref l0A), some (.int l1I), some (.int l3I), some (.int l3I), some (.int x7), some (.long x14), none, some (.long x21), none]) dX5_leavingRow_115 rfl (by decide) rfl ?_
            obtain ⟨x23, ex23, h⟩ := wkLt_some h
            refine wk_iinc C (lv' := [some (.ref l0A), some (.int l1I), some (.int l3I), some (.int x23), some (.int x7), some (.long x14), none, some (.long x21), none]) dX5_leavingRow_116 rfl (by rw [ex23]; rfl) (by decide) rfl ?_
            refine wk_goto C (tgt := 4) dX5_leavingRow_119 (by decide) ?_
            exact wk_forget (lv' := [some (.ref l0A), some (.int l1I), some (.int l3I), some (.int x23), none, none, none, none, none]) (wkLs.le ⟨rfl, rfl, rfl, rfl, trivial⟩) (ih _ _ _ _ _ hW hE hl0A h)
          · rw [if_neg c22] at h
            refine wk_lload C dX5_leavingRow_82 rfl ?_
            refine wk_lload C dX5_leavingRow_84 rfl ?_
            refine wk_lcmp C dX5_leavingRow_86 rfl ?_
            refine wk_if_lt C (tgt := 114) dX5_leavingRow_87 (by decide) (fun c24 => ?_) (fun c24 => ?_)
            · rw [if_pos c24] at h
              refine wk_iload_n C dX5_leavingRow_114 rfl rfl ?_
              refine wk_istore_n C (lv' := [some (.ref l0A), some (.int l1I), some (.int l3I), some (.int l3I), some (.int x7), some (.long x14), none, some (.long x21), none]) dX5_leavingRow_115 rfl (by decide) rfl ?_
              obtain ⟨x25, ex25, h⟩ := wkLt_some h
              refine wk_iinc C (lv' := [some (.ref l0A), some (.int l1I), some (.int l3I), some (.int x25), some (.int x7), some (.long x14), none, some (.long x21), none]) dX5_leavingRow_116 rfl (by rw [ex25]; rfl) (by decide) rfl ?_
              refine wk_goto C (tgt := 4) dX5_leavingRow_119 (by decide) ?_
              exact wk_forget (lv' := [some (.ref l0A), some (.int l1I), some (.int l3I), some (.int x25), none, none, none, none, none]) (wkLs.le ⟨rfl, rfl, rfl, rfl, trivial⟩) (ih _ _ _ _ _ hW hE hl0A h)
            · rw [if_neg c24] at h
              refine wk_lload C dX5_leavingRow_90 rfl ?_
              refine wk_lload C dX5_leavingRow_92 rfl ?_
              refine wk_lcmp C dX5_leavingRow_94 rfl ?_
              refine wk_if_ne C (tgt := 116) dX5_leavingRow_95 (by decide) (fun c26 => ?_) (fun c26 => ?_)
              · rw [if_neg c26] at h
                obtain ⟨x27, ex27, h⟩ := wkLt_some h
                refine wk_iinc C (lv' := [some (.ref l0A), some (.int l1I), some (.int l2I), some (.int x27), some (.int x7), some (.long x14), none, some (.long x21), none]) dX5_leavingRow_116 rfl (by rw [ex27]; rfl) (by decide) rfl ?_
                refine wk_goto C (tgt := 4) dX5_leavingRow_119 (by decide) ?_
                exact wk_forget (lv' := [some (.ref l0A), some (.int l1I), some (.int l2I), some (.int x27), none, none, none, none, none]) (wkLs.le ⟨rfl, rfl, rfl, rfl, trivial⟩) (ih _ _ _ _ _ hW hE hl0A h)
              · rw [if_pos c26] at h
                refine wk_aload_n C dX5_leavingRow_98 rfl rfl ?_
                refine wk_get C huX5_leavingRow_5 hl0A.1 (fun cy => wAt_5 cy _ hl0A.2) rfl 1 (by decide) (List.mem_of_getElem? (i := 8) rfl) rfl (congrArg some (congrArg va_rf (wf_Inequalities_rowLabels hW hl0A).1)) dX5_leavingRow_99 ?_
                refine wk_iload_n C dX5_leavingRow_102 rfl rfl ?_
                obtain ⟨i28, h⟩ := h
                refine wk_iald C (wf_Inequalities_rowLabels hW hl0A).2.1 (wf_Inequalities_rowLabels hW hl0A).2.2 i28 rfl dX5_leavingRow_103 ?_
                refine wk_aload_n C dX5_leavingRow_104 rfl rfl ?_
                refine wk_get C huX5_leavingRow_5 hl0A.1 (fun cy => wAt_5 cy _ hl0A.2) rfl 1 (by decide) (List.mem_of_getElem? (i := 8) rfl) rfl (congrArg some (congrArg va_rf (wf_Inequalities_rowLabels hW hl0A).1)) dX5_leavingRow_105 ?_
                refine wk_iload C dX5_leavingRow_108 rfl ?_
                obtain ⟨i29, h⟩ := h
                refine wk_iald C (wf_Inequalities_rowLabels hW hl0A).2.1 (wf_Inequalities_rowLabels hW hl0A).2.2 i29 rfl dX5_leavingRow_110 ?_
                refine wk_icmp_ge C (tgt := 116) dX5_leavingRow_111 (by decide) (fun c30 => ?_) (fun c30 => ?_)
                · rw [if_pos c30] at h
                  obtain ⟨x31, ex31, h⟩ := wkLt_some h
                  refine wk_iinc C (lv' := [some (.ref l0A), some (.int l1I), some (.int l2I), some (.int x31), some (.int x7), some (.long x14), none, some (.long x21), none]) dX5_leavingRow_116 rfl (by rw [ex31]; rfl) (by decide) rfl ?_
                  refine wk_goto C (tgt := 4) dX5_leavingRow_119 (by decide) ?_
                  exact wk_forget (lv' := [some (.ref l0A), some (.int l1I), some (.int l2I), some (.int x31), none, none, none, none, none]) (wkLs.le ⟨rfl, rfl, rfl, rfl, trivial⟩) (ih _ _ _ _ _ hW hE hl0A h)
                · rw [if_neg c30] at h
                  refine wk_iload_n C dX5_leavingRow_114 rfl rfl ?_
                  refine wk_istore_n C (lv' := [some (.ref l0A), some (.int l1I), some (.int l3I), some (.int l3I), some (.int x7), some (.long x14), none, some (.long x21), none]) dX5_leavingRow_115 rfl (by decide) rfl ?_
                  obtain ⟨x32, ex32, h⟩ := wkLt_some h
                  refine wk_iinc C (lv' := [some (.ref l0A), some (.int l1I), some (.int l3I), some (.int x32), some (.int x7), some (.long x14), none, some (.long x21), none]) dX5_leavingRow_116 rfl (by rw [ex32]; rfl) (by decide) rfl ?_
                  refine wk_goto C (tgt := 4) dX5_leavingRow_119 (by decide) ?_
                  exact wk_forget (lv' := [some (.ref l0A), some (.int l1I), some (.int l3I), some (.int x32), none, none, none, none, none]) (wkLs.le ⟨rfl, rfl, rfl, rfl, trivial⟩) (ih _ _ _ _ _ hW hE hl0A h)
set_option maxHeartbeats 4000000 in
set_option maxRecDepth 100000 in
theorem tX5_leavingRow {l : Launch} {g : wkG} {F : Nat}  {S : wPS} {l0A : Nat} {l1I : Int32} {Φ : (Int32 → wPS → Prop)} (hW : wkWF S) (hl0A : wkIs S l0A 5) (h : rX5_leavingRow F l0A l1I S Φ) : wkMet l g yX5_leavingRow wvX5_leavingRow 1 0 0 [.ref l0A, .int l1I] S (fun v' S'' => ∃ v : Int32, v' = some (.int v) ∧ Φ v S'' ∧ wkWF S'' ∧ wkExt S S'') := by
  refine wkMet_of (ret := (some .int)) (by decide) rfl (Nat.le_of_ble_eq_true rfl) (fun X hg C hR E => ?_)
  subst hg
  have hE : wkExt S S := wkExt.rf
  have hd : 1 ≤ 1 := Nat.le_refl _
  show wkGo l X 9 0 0 0 S [some (.ref l0A), some (.int l1I), none, none, none, none, none, none, none] []
  have ih := tX5_leavingRow_go (F := F) C hR hd E F
  have h : rX5_leavingRow_s F (rX5_leavingRow_go F F) l0A l1I S Φ := h
  unfold rX5_leavingRow_s at h
  refine wk_iconst C (v := (-1)) dX5_leavingRow_0 (by decide) ?_
  refine wk_istore_n C (lv' := [some (.ref l0A), some (.int l1I), some (.int (-1 : Int32)), none, none, none, none, none, none]) dX5_leavingRow_1 rfl (by decide) rfl ?_
  refine wk_iconst C (v := 0) dX5_leavingRow_2 (by decide) ?_
  refine wk_istore_n C (lv' := [some (.ref l0A), some (.int l1I), some (.int (-1 : Int32)), some (.int (0 : Int32)), none, none, none, none, none]) dX5_leavingRow_3 rfl (by decide) rfl ?_
  exact wk_forget (lv' := [some (.ref l0A), some (.int l1I), some (.int (-1 : Int32)), some (.int (0 : Int32)), none, none, none, none, none]) (wkLs.le ⟨rfl, rfl, rfl, rfl, trivial⟩) (ih _ _ _ _ _ hW hE hl0A h)
