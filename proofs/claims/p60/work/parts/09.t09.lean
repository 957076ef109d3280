def wvX5_exchange : List Cond := .code yX5_exchange cX5_exchange 9 none :: (([.fieldLink RX5 83 "Witnessworks$Inequalities" "rows" "I", .fieldLink RX5 13 "Witnessworks$Inequalities" "table" "[[J", .fieldLink RX5 47 "Witnessworks$Inequalities" "lower" "J", .fieldLink RX5 16 "Witnessworks$Inequalities" "rowLabels" "[I", .fieldLink RX5 20 "Witnessworks$Inequalities" "columnLabels" "[I", .fieldLink RX5 86 "Witnessworks$Inequalities" "columns" "I", .fieldLink RX5 111 "Witnessworks$Inequalities" "locked" "I"] : List Cond) ++ ((wsX50) ++ ([])))
theorem huX5_exchange_5 : ∀ w ∈ u_ws RX5 TX5 7, w ∈ wvX5_exchange := fun w h => List.mem_cons_of_mem _ (List.mem_append_right _ (List.mem_append_left _ h))
theorem gdX5_exchange : ∀ w ∈ wvX5_exchange, wkGd w := wkGdC rfl (wkGdA (wkGdL (by decide +kernel)) (wkGdA gdX5 (fun _ h => absurd h List.not_mem_nil)))
def rX5_exchange_b0 (F : Nat) (rec : Nat → Nat → Int32 → Int32 → Int64 → Int32 → Int64 → Int32 → wPS → (Unit → wPS → Prop) → Prop) (l0A : Nat) (l1I : Int32) (l2I : Int32) (l3J : Int64) (l5I : Int32) (S : wPS) (Φ : (Unit → wPS → Prop)) : Prop :=
  if (gInequalities_rows S l0A) < l5I then (¬ (l1I < 0 ∨ S.len (wkAd (gInequalities_table S l0A)) ≤ (l1I).toNatClampNeg) ∧ ¬ (l2I < 0 ∨ S.len (wkAd (S.rA (wkAd (gInequalities_table S l0A)) (l1I).toNatClampNeg)) ≤ (l2I).toNatClampNeg) ∧ wkLt (wuJ S (wkAd (S.rA (wkAd (gInequalities_table S l0A)) (l1I).toNatClampNeg)) l2I (gInequalities_lower S l0A)) fun S5 => wkLt (wu_Inequalities_lower S5 l0A l3J) fun S6 => ¬ (l1I < 0 ∨ S6.len (wkAd (gInequalities_rowLabels S6 l0A)) ≤ (l1I).toNatClampNeg) ∧ wkLt ((S6.rI (wkAd (gInequalities_rowLabels S6 l0A)) (l1I).toNatClampNeg)) fun x8 => ¬ (l2I < 0 ∨ S6.len (wkAd (gInequalities_columnLabels S6 l0A)) ≤ (l2I).toNatClampNeg) ∧ ¬ (l1I < 0 ∨ S6.len (wkAd (gInequalities_rowLabels S6 l0A)) ≤ (l1I).toNatClampNeg) ∧ wkLt (wuI S6 (wkAd (gInequalities_rowLabels S6 l0A)) l1I (S6.rI (wkAd (gInequalities_columnLabels S6 l0A)) (l2I).toNatClampNeg)) fun S11 => ¬ (l2I < 0 ∨ S11.len (wkAd (gInequalities_columnLabels S11 l0A)) ≤ (l2I).toNatClampNeg) ∧ wkLt (wuI S11 (wkAd (gInequalities_columnLabels S11 l0A)) l2I x8) fun S13 => if x8 < (gInequalities_columns S13 l0A) then (Φ () S13) else (wkLt (wu_Inequalities_locked S13 l0A ((gInequalities_locked S13 l0A) ||| ((1 : Int32) <<< (x8 &&& 31)))) fun S15 => Φ () S15)) else (¬ (l5I < 0 ∨ S.len (wkAd (gInequalities_table S l0A)) ≤ (l5I).toNatClampNeg) ∧ ¬ (l2I < 0 ∨ S.len (wkAd (S.rA (wkAd (gInequalities_table S l0A)) (l5I).toNatClampNeg)) ≤ (l2I).toNatClampNeg) ∧ wkLt ((S.rJ (wkAd (S.rA (wkAd (gInequalities_table S l0A)) (l5I).toNatClampNeg)) (l2I).toNatClampNeg)) fun x19 => if l5I = l1I then (wkLt (l5I + (1 : Int32)) fun x21 => rec 0 l0A l1I l2I l3J x21 0 0 S Φ) else (rec 1 l0A l1I l2I l3J l5I x19 (0 : Int32) S Φ))
def rX5_exchange_b1 (F : Nat) (rec : Nat → Nat → Int32 → Int32 → Int64 → Int32 → Int64 → Int32 → wPS → (Unit → wPS → Prop) → Prop) (l0A : Nat) (l1I : Int32) (l2I : Int32) (l3J : Int64) (l5I : Int32) (l6J : Int64) (l8I : Int32) (S : wPS) (Φ : (Unit → wPS → Prop)) : Prop :=
  if (gInequalities_columns S l0A) < l8I then (¬ (l5I < 0 ∨ S.len (wkAd (gInequalities_table S l0A)) ≤ (l5I).toNatClampNeg) ∧ ¬ (l2I < 0 ∨ S.len (wkAd (S.rA (wkAd (gInequalities_table S l0A)) (l5I).toNatClampNeg)) ≤ (l2I).toNatClampNeg) ∧ wkLt (wuJ S (wkAd (S.rA (wkAd (gInequalities_table S l0A)) (l5I).toNatClampNeg)) l2I (-l6J)) fun S26 => wkLt (l5I + (1 : Int32)) fun x27 => rec 0 l0A l1I l2I l3J x27 0 0 S26 Φ) else (¬ (l5I < 0 ∨ S.len (wkAd (gInequalities_table S l0A)) ≤ (l5I).toNatClampNeg) ∧ ¬ (l5I < 0 ∨ S.len (wkAd (gInequalities_table S l0A)) ≤ (l5I).toNatClampNeg) ∧ ¬ (l8I < 0 ∨ S.len (wkAd (S.rA (wkAd (gInequalities_table S l0A)) (l5I).toNatClampNeg)) ≤ (l8I).toNatClampNeg) ∧ ¬ (l1I < 0 ∨ S.len (wkAd (gInequalities_table S l0A)) ≤ (l1I).toNatClampNeg) ∧ ¬ (l8I < 0 ∨ S.len (wkAd (S.rA (wkAd (gInequalities_table S l0A)) (l1I).toNatClampNeg)) ≤ (l8I).toNatClampNeg) ∧ ¬ (gInequalities_lower S l0A) = 0 ∧ ¬ (l8I < 0 ∨ S.len (wkAd (S.rA (wkAd (gInequalities_table S l0A)) (l5I).toNatClampNeg)) ≤ (l8I).toNatClampNeg) ∧ wkLt (wuJ S (wkAd (S.rA (wkAd (gInequalities_table S l0A)) (l5I).toNatClampNeg)) l8I (((l3J * (S.rJ (wkAd (S.rA (wkAd (gInequalities_table S l0A)) (l5I).toNatClampNeg)) (l8I).toNatClampNeg)) - (l6J * (S.rJ (wkAd (S.rA (wkAd (gInequalities_table S l0A)) (l1I).toNatClampNeg)) (l8I).toNatClampNeg))) / (gInequalities_lower S l0A))) fun S38 => wkLt (l8I + (1 : Int32)) fun x39 => rec 1 l0A l1I l2I l3J l5I l6J x39 S38 Φ)
def rX5_exchange_go (F : Nat) : Nat → Nat → Nat → Int32 → Int32 → Int64 → Int32 → Int64 → Int32 → wPS → (Unit → wPS → Prop) → Prop
  | 0, _, _, _, _, _, _, _, _, _, _ => False
  | k' + 1, lab, l0A, l1I, l2I, l3J, l5I, l6J, l8I, S, Φ => if lab = 0 then rX5_exchange_b0 F (rX5_exchange_go F k') l0A l1I l2I l3J l5I S Φ else if lab = 1 then rX5_exchange_b1 F (rX5_exchange_go F k') l0A l1I l2I l3J l5I l6J l8I S Φ else False
def rX5_exchange_s (F : Nat) (rec : Nat → Nat → Int32 → Int32 → Int64 → Int32 → Int64 → Int32 → wPS → (Unit → wPS → Prop) → Prop) (l0A : Nat) (l1I : Int32) (l2I : Int32) (S : wPS) (Φ : (Unit → wPS → Prop)) : Prop :=
  ¬ (l1I < 0 ∨ S.len (wkAd (gInequalities_table S l0A)) ≤ (l1I).toNatClampNeg) ∧ ¬ (l2I < 0 ∨ S.len (wkAd (S.rA (wkAd (gInequalities_table S l0A)) (l1I).toNatClampNeg)) ≤ (l2I).toNatClampNeg) ∧ wkLt ((S.rJ (wkAd (S.rA (wkAd (gInequalities_table S l0A)) (l1I).toNatClampNeg)) (l2I).toNatClampNeg)) fun x43 => if (lg_cmp x43 (1 : Int64)) < 0 then (Φ () S) else (if 0 ≤ (lg_cmp (gInequalities_lower S l0A) (1 : Int64)) then (rec 0 l0A l1I l2I x43 (0 : Int32) 0 0 S Φ) else (Φ () S))
def rX5_exchange (F : Nat) (l0A : Nat) (l1I : Int32) (l2I : Int32) (S : wPS) (Φ : (Unit → wPS → Prop)) : Prop := rX5_exchange_s F (rX5_exchange_go F F) l0A l1I l2I S Φ
set_option maxHeartbeats 4000000 in
set_option maxRecDepth 100000 in
theorem tX5_exchange_go {l : Launch} {X : wkX} {d F : Nat} {S0 : wPS} {Φ : (Unit → wPS → Prop)} (C : wkC X cX5_exchange RX5 9 wvX5_exchange) (hR : wkRm X d 0 0) (hd : 0 ≤ d) (E : wkEnd l X cX5_exchange 9 none 0 0 (fun v' S'' => ∃ v : Unit, v' = none ∧ Φ v S'' ∧ wkWF S'' ∧ wkExt S0 S'')) : ∀ k' : Nat, (∀ (l0A : Nat) (l1I : Int32) (l2I : Int32) (l3J : Int64) (l5I : Int32) (S : wPS), wkWF S → wkExt S0 S → wkIs S l0A 5 → rX5_exchange_go F k' 0 l0A l1I l2I l3J l5I 0 0 S Φ → wkGo l X 9 0 0 28 S [some (.ref l0A), some (.int l1I), some (.int l2I), some (.long l3J), none, some (.int l5I), none, none, none] []) ∧ (∀ (l0A : Nat) (l1I : Int32) (l2I : Int32) (l3J : Int64) (l5I : Int32) (l6J : Int64) (l8I : Int32) (S : wPS), wkWF S → wkExt S0 S → wkIs S l0A 5 → rX5_exchange_go F k' 1 l0A l1I l2I l3J l5I l6J l8I S Φ → wkGo l X 9 0 0 57 S [some (.ref l0A), some (.int l1I), some (.int l2I), some (.long l3J), none, some (.int l5I), some (.long l6J), none, some (.int l8I)] []) := by
  intro k'
  induction k' with
  | zero => exact ⟨fun l0A l1I l2I l3J l5I S hW hE hl0A h => h.elim, fun l0A l1I l2I l3J l5I l6J l8I S hW hE hl0A h => h.elim⟩
  | succ k' ih =>
    refine ⟨?_, ?_⟩
    · intro l0A l1I l2I l3J l5I S hW hE hl0A h
      have h : rX5_exchange_b0 F (rX5_exchange_go F k') l0A l1I l2I l3J l5I S Φ := by
        rw [rX5_exchange_go, if_pos (rfl : (0 : Nat) = 0)] at h
        exact h
      unfold rX5_exchange_b0 at h
      refine wk_iload C dX5_exchange_28 rfl ?_
      refine wk_aload_n C dX5_exchange_30 rfl rfl ?_
      refine wk_get C (v := .int (gInequalities_rows S l0A)) huX5_exchange_5 hl0A.1 (fun cy => wAt_5 cy _ hl0A.2) rfl 4 (by decide) (List.mem_of_getElem? (i := 1) rfl) rfl rfl dX5_exchange_31 ?_
      refine wk_icmp_gt C (tgt := 130) dX5_exchange_34 (by decide) (fun c1 => ?_) (fun c1 => ?_)
      · rw [if_pos c1] at h
        refine wk_aload_n C dX5_exchange_130 rfl rfl ?_
        refine wk_get C huX5_exchange_5 hl0A.1 (fun cy => wAt_5 cy _ hl0A.2) rfl 0 (by decide) (List.mem_of_getElem? (i := 2) rfl) rfl (congrArg some (congrArg va_rf (wf_Inequalities_table hW hl0A).1)) dX5_exchange_131 ?_
        refine wk_iload_n C dX5_exchange_134 rfl rfl ?_
        obtain ⟨i2, h⟩ := h
        have w3 := wf_R_J hW (wf_Inequalities_table hW hl0A).2 (Nat.not_le.mp fun q => i2 (Or.inr q))
        refine wk_aald_J C (wf_Inequalities_table hW hl0A).2.1 (wf_Inequalities_table hW hl0A).2.2 i2 w3.1 dX5_exchange_135 ?_
        refine wk_iload_n C dX5_exchange_136 rfl rfl ?_
        refine wk_aload_n C dX5_exchange_137 rfl rfl ?_
        refine wk_get C (v := .long (gInequalities_lower S l0A)) huX5_exchange_5 hl0A.1 (fun cy => wAt_5 cy _ hl0A.2) rfl 6 (by decide) (List.mem_of_getElem? (i := 3) rfl) rfl rfl dX5_exchange_138 ?_
        obtain ⟨i4, h⟩ := h
        obtain ⟨S5, eS5, h⟩ := wkLt_some h
        refine wk_last C w3.2.1 w3.2.2 i4 eS5.symm dX5_exchange_141 ?_
        have hWS5 : wkWF S5 := by rw [eS5]; exact hW
        have hXS5 : wkExt S S5 := by rw [eS5]; exact wkExt.rf
        refine wk_aload_n C dX5_exchange_142 rfl rfl ?_
        refine wk_lload_n C dX5_exchange_143 rfl rfl ?_
        obtain ⟨S6, eS6, h⟩ := wkLt_some h
        refine wk_put C (S' := S6) huX5_exchange_5 (hXS5 _ _ hl0A).1 (fun cy => wAt_5 cy _ (hXS5 _ _ hl0A).2) rfl 6 (by decide) (List.mem_of_getElem? (i := 3) rfl) rfl tyX5_ok nmX5 rfl (ty := .long) rfl rfl rfl (by show 6 < 7; decide) (fun cy b => by rw [eS6]; exact wSt_5_6 cy _ (hXS5 _ _ hl0A).2 _ b) (by rw [eS6]) dX5_exchange_144 ?_
        have hWS6 : wkWF S6 := by rw [eS6]; exact hWS5
        have hXS6 : wkExt S5 S6 := by rw [eS6]; exact wkExt.rf
        refine wk_aload_n C dX5_exchange_147 rfl rfl ?_
        refine wk_get C huX5_exchange_5 (hXS6 _ _ (hXS5 _ _ hl0A)).1 (fun cy => wAt_5 cy _ (hXS6 _ _ (hXS5 _ _ hl0A)).2) rfl 1 (by decide) (List.mem_of_getElem? (i := 4) rfl) rfl (congrArg some (congrArg va_rf (wf_Inequalities_rowLabels hWS6 (hXS6 _ _ (hXS5 _ _ hl0A))).1)) dX5_exchange_148 ?_
        refine wk_iload_n C dX5_exchange_151 rfl rfl ?_
        obtain ⟨i7, h⟩ := h
        refine wk_iald C (wf_Inequalities_rowLabels hWS6 (hXS6 _ _ (hXS5 _ _ hl0A))).2.1 (wf_Inequalities_rowLabels hWS6 (hXS6 _ _ (hXS5 _ _ hl0A))).2.2 i7 rfl dX5_exchange_152 ?_
        obtain ⟨x8, ex8, h⟩ := wkLt_some h
        refine wk_topi ex8 ?_
        refine wk_istore C (lv' := [some (.ref l0A), some (.int l1I), some (.int l2I), some (.long l3J), none, some (.int x8), none, none, none]) dX5_exchange_153 (by decide) rfl ?_
        refine wk_aload_n C dX5_exchange_155 rfl rfl ?_
        refine wk_get C huX5_exchange_5 (hXS6 _ _ (hXS5 _ _ hl0A)).1 (fun cy => wAt_5 cy _ (hXS6 _ _ (hXS5 _ _ hl0A)).2) rfl 1 (by decide) (List.mem_of_getElem? (i := 4) rfl) rfl (congrArg some (congrArg va_rf (wf_Inequalities_rowLabels hWS6 (hXS6 _ _ (hXS5 _ _ hl0A))).1)) dX5_exchange_156 ?_
        refine wk_iload_n C dX5_exchange_159 rfl rfl ?_
        refine wk_aload_n C dX5_exchange_160 rfl rfl ?_
        refine wk_get C huX5_exchange_5 (hXS6 _ _ (hXS5 _ _ hl0A)).1 (fun cy => wAt_5 cy _ (hXS6 _ _ (hXS5 _ _ hl0A)).2) rfl 2 (by decide) (List.mem_of_getElem? (i := 5) rfl) rfl (congrArg some (congrArg va_rf (wf_Inequalities_columnLabels hWS6 (hXS6 _ _ (hXS5 _ _ hl0A))).1)) dX5_exchange_161 ?_
        refine wk_iload_n C dX5_exchange_164 rfl rfl ?_
        obtain ⟨i9, h⟩ := h
        refine wk_iald C (wf_Inequalities_columnLabels hWS6 (hXS6 _ _ (hXS5 _ _ hl0A))).2.1 (wf_Inequalities_columnLabels hWS6 (hXS6 _ _ (hXS5 _ _ hl0A))).2.2 i9 rfl dX5_exchange_165 ?_
        obtain ⟨i10, h⟩ := h
        obtain ⟨S11, eS11, h⟩ := wkLt_some h
        refine wk_iast C (wf_Inequalities_rowLabels hWS6 (hXS6 _ _ (hXS5 _ _ hl0A))).2.1 (wf_Inequalities_rowLabels hWS6 (hXS6 _ _ (hXS5 _ _ hl0A))).2.2 i10 eS11.symm dX5_exchange_166 ?_
        have hWS11 : wkWF S11 := by rw [eS11]; exact hWS6
        have hXS11 : wkExt S6 S11 := by rw [eS11]; exact wkExt.rf
        refine wk_aload_n C dX5_exchange_167 rfl rfl ?_
        refine wk_get C huX5_exchange_5 (hXS11 _ _ (hXS6 _ _ (hXS5 _ _ hl0A))).1 (fun cy => wAt_5 cy _ (hXS11 _ _ (hXS6 _ _ (hXS5 _ _ hl0A))).2) rfl 2 (by decide) (List.mem_of_getElem? (i := 5) rfl) rfl (congrArg some (congrArg va_rf (wf_Inequalities_columnLabels hWS11 (hXS11 _ _ (hXS6 _ _ (hXS5 _ _ hl0A)))).1)) dX5_exchange_168 ?_
        refine wk_iload_n C dX5_exchange_171 rfl rfl ?_
        refine wk_iload C dX5_exchange_172 rfl ?_
        obtain ⟨i12, h⟩ := h
        obtain ⟨S13, eS13, h⟩ := wkLt_some h
        refine wk_iast C (wf_Inequalities_columnLabels hWS11 (hXS11 _ _ (hXS6 _ _ (hXS5 _ _ hl0A)))).2.1 (wf_Inequalities_columnLabels hWS11 (hXS11 _ _ (hXS6 _ _ (hXS5 _ _ hl0A)))).2.2 i12 eS13.symm dX5_exchange_174 ?_
        have hWS13 : wkWF S13 := by rw [eS13]; exact hWS11
        have hXS13 : wkExt S11 S13 := by rw [eS13]; exact wkExt.rf
        refine wk_iload C dX5_exchange_175 rfl ?_
        refine wk_aload_n C dX5_exchange_177 rfl rfl ?_
        refine wk_get C (v := .int (gInequalities_columns S13 l0A)) huX5_exchange_5 (hXS13 _ _ (hXS11 _ _ (hXS6 _ _ (hXS5 _ _ hl0A)))).1 (fun cy => wAt_5 cy _ (hXS13 _ _ (hXS11 _ _ (hXS6 _ _ (hXS5 _ _ hl0A)))).2) rfl 5 (by decide) (List.mem_of_getElem? (i := 6) rfl) rfl rfl dX5_exchange_178 ?_
        refine wk_icmp_lt C (tgt := 197) dX5_exchange_181 (by decide) (fun c14 => ?_) (fun c14 => ?_)
        · rw [if_pos c14] at h
          exact E _ _ _ _ _ (Nat.le_refl 0) (Nat.le_refl 0) dX5_exchange_197 ⟨(), rfl, h, hWS13, (wkExt.tr (wkExt.tr (wkExt.tr (wkExt.tr hE hXS5) hXS6) hXS11) hXS13)⟩
        · rw [if_neg c14] at h
          refine wk_aload_n C dX5_exchange_184 rfl rfl ?_
          refine wk_dup C dX5_exchange_185 rfl ?_
          refine wk_get C (v := .int (gInequalities_locked S13 l0A)) huX5_exchange_5 (hXS13 _ _ (hXS11 _ _ (hXS6 _ _ (hXS5 _ _ hl0A)))).1 (fun cy => wAt_5 cy _ (hXS13 _ _ (hXS11 _ _ (hXS6 _ _ (hXS5 _ _ hl0A)))).2) rfl 3 (by decide) (List.mem_of_getElem? (i := 7) rfl) rfl rfl dX5_exchange_186 ?_
          refine wk_iconst C (v := 1) dX5_exchange_189 (by decide) ?_
          refine wk_iload C dX5_exchange_190 rfl ?_
          refine wk_ishl C dX5_exchange_192 rfl ?_
          refine wk_ior C dX5_exchange_193 rfl ?_
          obtain ⟨S15, eS15, h⟩ := wkLt_some h
          refine wk_put C (S' := S15) huX5_exchange_5 (hXS13 _ _ (hXS11 _ _ (hXS6 _ _ (hXS5 _ _ hl0A)))).1 (fun cy => wAt_5 cy _ (hXS13 _ _ (hXS11 _ _ (hXS6 _ _ (hXS5 _ _ hl0A)))).2) rfl 3 (by decide) (List.mem_of_getElem? (i := 7) rfl) rfl tyX5_ok nmX5 rfl (ty := .int) rfl rfl rfl (by show 3 < 7; decide) (fun cy b => by rw [eS15]; exact wSt_5_3 cy _ (hXS13 _ _ (hXS11 _ _ (hXS6 _ _ (hXS5 _ _ hl0A)))).2 _ b) (by rw [eS15]) dX5_exchange_194 ?_
          have hWS15 : wkWF S15 := by rw [eS15]; exact hWS13
          have hXS15 : wkExt S13 S15 := by rw [eS15]; exact wkExt.rf
          exact E _ _ _ _ _ (Nat.le_refl 0) (Nat.le_refl 0) dX5_exchange_197 ⟨(), rfl, h, hWS15, (wkExt.tr (wkExt.tr (wkExt.tr (wkExt.tr (wkExt.tr hE hXS5) hXS6) hXS11) hXS13) hXS15)⟩
      · rw [if_neg c1] at h
        refine wk_aload_n C dX5_exchange_37 rfl rfl ?_
        refine wk_get C huX5_exchange_5 hl0A.1 (fun cy => wAt_5 cy _ hl0A.2) rfl 0 (by decide) (List.mem_of_getElem? (i := 2) rfl) rfl (congrArg some (congrArg va_rf (wf_Inequalities_table hW hl0A).1)) dX5_exchange_38 ?_
        refine wk_iload C dX5_exchange_41 rfl ?_
        obtain ⟨i16, h⟩ := h
        have w17 := wf_R_J hW (wf_Inequalities_table hW hl0A).2 (Nat.not_le.mp fun q => i16 (Or.inr q))
        refine wk_aald_J C (wf_Inequalities_table hW hl0A).2.1 (wf_Inequalities_table hW hl0A).2.2 i16 w17.1 dX5_exchange_43 ?_
        refine wk_iload_n C dX5_exchange_44 rfl rfl ?_
        obtain ⟨i18, h⟩ := h
        refine wk_lald C w17.2.1 w17.2.2 i18 rfl dX5_exchange_45 ?_
        obtain ⟨x19, ex19, h⟩ := wkLt_some h
        refine wk_topl ex19 ?_
        refine wk_lstore C (lv' := [some (.ref l0A), some (.int l1I), some (.int l2I), some (.long l3J), none, some (.int l5I), some (.long x19), none, none]) dX5_exchange_46 (by decide) rfl ?_
        refine wk_iload C dX5_exchange_48 rfl ?_
        refine wk_iload_n C dX5_exchange_50 rfl rfl ?_
        refine wk_icmp_eq C (tgt := 124) dX5_exchange_51 (by decide) (fun c20 => ?_) (fun c20 => ?_)
        · rw [if_pos c20] at h
          obtain ⟨x21, ex21, h⟩ := wkLt_some h
          refine wk_iinc C (lv' := [some (.ref l0A), some (.int l1I), some (.int l2I), some (.long l3J), none, some (.int x21), some (.long x19), none, none]) dX5_exchange_124 rfl (by rw [ex21]; rfl) (by decide) rfl ?_
          refine wk_goto C (tgt := 28) dX5_exchange_127 (by decide) ?_
          exact wk_forget (lv' := [some (.ref l0A), some (.int l1I), some (.int l2I), some (.long l3J), none, some (.int x21), none, none, none]) (wkLs.le ⟨rfl, rfl, rfl, rfl, rfl, trivial⟩) (ih.1 _ _ _ _ _ _ hW hE hl0A h)
        · rw [if_neg c20] at h
          refine wk_iconst C (v := 0) dX5_exchange_54 (by decide) ?_
          refine wk_istore C (lv' := [some (.ref l0A), some (.int l1I), some (.int l2I), some (.long l3J), none, some (.int l5I), some (.long x19), none, some (.int (0 : Int32))]) dX5_exchange_55 (by decide) rfl ?_
          exact wk_forget (lv' := [some (.ref l0A), some (.int l1I), some (.int l2I), some (.long l3J), none, some (.int l5I), some (.long x19), none, some (.int (0 : Int32))]) (wkLs.le ⟨rfl, rfl, rfl, rfl, rfl, rfl, rfl, trivial⟩) (ih.2 _ _ _ _ _ _ _ _ hW hE hl0A h)
    · intro l0A l1I l2I l3J l5I l6J l8I S hW hE hl0A h
      have h : rX5_exchange_b1 F (rX5_exchange_go F k') l0A l1I l2I l3J l5I l6J l8I S Φ := by
        rw [rX5_exchange_go, if_neg (show ¬ (1 : Nat) = 0 by decide), if_pos (rfl : (1 : Nat) = 1)] at h
        exact h
      unfold rX5_exchange_b1 at h
      refine wk_iload C dX5_exchange_57 rfl ?_
      refine wk_aload_n C dX5_exchange_59 rfl rfl ?_
      refine wk_get C (v := .int (gInequalities_columns S l0A)) huX5_exchange_5 hl0A.1 (fun cy => wAt_5 cy _ hl0A.2) rfl 5 (by decide) (List.mem_of_getElem? (i := 6) rfl) rfl rfl dX5_exchange_60 ?_
      refine wk_icmp_gt C (tgt := 112) dX5_exchange_63 (by decide) (fun c22 => ?_) (fun c22 => ?_)
      · rw [if_pos c22] at h
        refine wk_aload_n C dX5_exchange_112 rfl rfl ?_
        refine wk_get C huX5_exchange_5 hl0A.1 (fun cy => wAt_5 cy _ hl0A.2) rfl 0 (by decide) (List.mem_of_getElem? (i := 2) rfl) rfl (congrArg some (congrArg va_rf (wf_Inequalities_table hW hl0A).1)) dX5_exchange_113 ?_
        refine wk_iload C dX5_exchange_116 rfl ?_
        obtain ⟨i23, h⟩ := h
        have w24 := wf_R_J hW (wf_Inequalities_table hW hl0A).2 (Nat.not_le.mp fun q => i23 (Or.inr q))
        refine wk_aald_J C (wf_Inequalities_table hW hl0A).2.1 (wf_Inequalities_table hW hl0A).2.2 i23 w24.1 dX5_exchange_118 ?_
        refine wk_iload_n C dX5_exchange_119 rfl rfl ?_
        refine wk_lload C dX5_exchange_120 rfl ?_
        refine wk_lneg C dX5_exchange_122 rfl ?_
        obtain ⟨i25, h⟩ := h
        obtain ⟨S26, eS26, h⟩ := wkLt_some h
        refine wk_last C w24.2.1 w24.2.2 i25 eS26.symm dX5_exchange_123 ?_
        have hWS26 : wkWF S26 := by rw [eS26]; exact hW
        have hXS26 : wkExt S S26 := by rw [eS26]; exact wkExt.rf
        obtain ⟨x27, ex27, h⟩ := wkLt_some h
        refine wk_iinc C (lv' := [some (.ref l0A), some (.int l1I), some (.int l2I), some (.long l3J), none, some (.int x27), some (.long l6J), none, some (.int l8I)]) dX5_exchange_124 rfl (by rw [ex27]; rfl) (by decide) rfl ?_
        refine wk_goto C (tgt := 28) dX5_exchange_127 (by decide) ?_
        exact wk_forget (lv' := [some (.ref l0A), some (.int l1I), some (.int l2I), some (.long l3J), none, some (.int x27), none, none, none]) (wkLs.le ⟨rfl, rfl, rfl, rfl, rfl, trivial⟩) (ih.1 _ _ _ _ _ _ hWS26 (wkExt.tr hE hXS26) (hXS26 _ _ hl0A) h)
      · rw [if_neg c22] at h
        refine wk_aload_n C dX5_exchange_66 rfl rfl ?_
        refine wk_get C huX5_exchange_5 hl0A.1 (fun cy => wAt_5 cy _ hl0A.2) rfl 0 (by decide) (List.mem_of_getElem? (i := 2) rfl) rfl (congrArg some (congrArg va_rf (wf_Inequalities_table hW hl0A).1)) dX5_exchange_67 ?_
        refine wk_iload C dX5_exchange_70 rfl ?_
        obtain ⟨i28, h⟩ := h
        have w29 := wf_R_J hW (wf_Inequalities_table hW hl0A).2 (Nat.not_le.mp fun q => i28 (Or.inr q))
        refine wk_aald_J C (wf_Inequalities_table hW hl0A).2.1 (wf_Inequalities_table hW hl0A).2.2 i28 w29.1 dX5_exchange_72 ?_
        refine wk_iload C dX5_exchange_73 rfl ?_
        refine wk_lload_n C dX5_exchange_75 rfl rfl ?_
        refine wk_aload_n C dX5_exchange_76 rfl rfl ?_
        refine wk_get C huX5_exchange_5 hl0A.1 (fun cy => wAt_5 cy _ hl0A.2) rfl 0 (by decide) (List.mem_of_getElem? (i := 2) rfl) rfl (congrArg some (congrArg va_rf (wf_Inequalities_table hW hl0A).1)) dX5_exchange_77 ?_
        refine wk_iload C dX5_exchange_80 rfl ?_
        obtain ⟨i30, h⟩ := h
        have w31 := wf_R_J hW (wf_Inequalities_table hW hl0A).2 (Nat.not_le.mp fun q => i30 (Or.inr q))
        refine wk_aald_J C (wf_Inequalities_table hW hl0A).2.1 (wf_Inequalities_table hW hl0A).2.2 i30 w31.1 dX5_exchange_82 ?_
        refine wk_iload C dX5_exchange_83 rfl ?_
        obtain ⟨i32, h⟩ := h
        refine wk_lald C w31.2.1 w31.2.2 i32 rfl dX5_exchange_85 ?_
        refine wk_lmul C dX5_exchange_86 rfl ?_
        refine wk_lload C dX5_exchange_87 rfl ?_
        refine wk_aload_n C dX5_exchange_89 rfl rfl ?_
        refine wk_get C huX5_exchange_5 hl0A.1 (fun cy => wAt_5 cy _ hl0A.2) rfl 0 (by decide) (List.mem_of_getElem? (i := 2) rfl) rfl (congrArg some (congrArg va_rf (wf_Inequalities_table hW hl0A).1)) dX5_exchange_90 ?_
        refine wk_iload_n C dX5_exchange_93 rfl rfl ?_
        obtain ⟨i33, h⟩ := h
        have w34 := wf_R_J hW (wf_Inequalities_table hW hl0A).2 (Nat.not_le.mp fun q => i33 (Or.inr q))
        refine wk_aald_J C (wf_Inequalities_table hW hl0A).2.1 (wf_Inequalities_table hW hl0A).2.2 i33 w34.1 dX5_exchange_94 ?_
        refine wk_iload C dX5_exchange_95 rfl ?_
        obtain ⟨i35, h⟩ := h
        refine wk_lald C w34.2.1 w34.2.2 i35 rfl dX5_exchange_97 ?_
        refine wk_lmul C dX5_exchange_98 rfl ?_
        refine wk_lsub C dX5_exchange_99 rfl ?_
        refine wk_aload_n C dX5_exchange_100 rfl rfl ?_
        refine wk_get C (v := .long (gInequalities_lower S l0A)) huX5_exchange_5 hl0A.1 (fun cy => wAt_5 cy _ hl0A.2) rfl 6 (by decide) (List.mem_of_getElem? (i := 3) rfl) rfl rfl dX5_exchange_101 ?_
        obtain ⟨z36, h⟩ := h
        refine wk_ldiv C dX5_exchange_104 z36 rfl ?_
        obtain ⟨i37, h⟩ := h
        obtain ⟨S38, eS38, h⟩ := wkLt_some h
        refine wk_last C w29.2.1 w29.2.2 i37 eS38.symm dX5_exchange_105 ?_
        have hWS38 : wkWF S38 := by rw [eS38]; exact hW
        have hXS38 : wkExt S S38 := by rw [eS38]; exact wkExt.rf
        obtain ⟨x39, ex39, h⟩ := wkLt_some h
        refine wk_iinc C (lv' := [some (.ref l0A), some (.int l1I), some (.int l2I), some (.long l3J), none, some (.int l5I), some (.long l6J), none, some (.int x39)]) dX5_exchange_106 rfl (by rw [ex39]; rfl) (by decide) rfl ?_
        refine wk_goto C (tgt := 57) dX5_exchange_109 (by decide) ?_
        exact wk_forget (lv' := [some (.ref l0A), some (.int l1I), some (.int l2I), some (.long l3J), none, some (.int l5I), some (.long l6J), none, some (.int x39)]) (wkLs.le ⟨rfl, rfl, rfl, rfl, rfl, rfl, rfl, trivial⟩) (ih.2 _ _ _ _ _ _ _ _ hWS38 (wkExt.tr hE hXS38) (hXS38 _ _ hl0A) h)
set_option maxHeartbeats 4000000 in
set_option maxRecDepth 100000 in
theorem tX5_exchange {l : Launch} {g : wkG} {F : Nat}  {S : wPS} {l0A : Nat} {l1I : Int32} {l2I : Int32} {Φ : (Unit → wPS → Prop)} (hW : wkWF S) (hl0A : wkIs S l0A 5) (h : rX5_exchange F l0A l1I l2I S Φ) : wkMet l g yX5_exchange wvX5_exchange 0 0 0 [.ref l0A, .int l1I, .int l2I] S (fun v' S'' => ∃ v : Unit, v' = none ∧ Φ v S'' ∧ wkWF S'' ∧ wkExt S S'') := by
  refine wkMet_of (ret := none) (by decide) rfl (Nat.le_of_ble_eq_true rfl) (fun X hg C hR E => ?_)
  subst hg
  have hE : wkExt S S := wkExt.rf
  have hd : 0 ≤ 0 := Nat.le_refl _
  show wkGo l X 9 0 0 0 S [some (.ref l0A), some (.int l1I), some (.int l2I), none, none, none, none, none, none] []
  have ih := tX5_exchange_go (F := F) C hR hd E F
  have h : rX5_exchange_s F (rX5_exchange_go F F) l0A l1I l2I S Φ := h
  unfold rX5_exchange_s at h
  refine wk_aload_n C dX5_exchange_0 rfl rfl ?_
  refine wk_get C huX5_exchange_5 hl0A.1 (fun cy => wAt_5 cy _ hl0A.2) rfl 0 (by decide) (List.mem_of_getElem? (i := 2) rfl) rfl (congrArg some (congrArg va_rf (wf_Inequalities_table hW hl0A).1)) dX5_exchange_1 ?_
  refine wk_iload_n C dX5_exchange_4 rfl rfl ?_
  obtain ⟨i40, h⟩ := h
  have w41 := wf_R_J hW (wf_Inequalities_table hW hl0A).2 (Nat.not_le.mp fun q => i40 (Or.inr q))
  refine wk_aald_J C (wf_Inequalities_table hW hl0A).2.1 (wf_Inequalities_table hW hl0A).2.2 i40 w41.1 dX5_exchange_5 ?_
  refine wk_iload_n C dX5_exchange_6 rfl rfl ?_
  obtain ⟨i42, h⟩ := h
  refine wk_lald C w41.2.1 w41.2.2 i42 rfl dX5_exchange_7 ?_
  obtain ⟨x43, ex43, h⟩ := wkLt_some h
  refine wk_topl ex43 ?_
  refine wk_lstore_n C (lv' := [some (.ref l0A), some (.int l1I), some (.int l2I), some (.long x43), none, none, none, none, none]) dX5_exchange_8 rfl (by decide) rfl ?_
  refine wk_lload_n C dX5_exchange_9 rfl rfl ?_
  refine wk_lconst C (v := 1) dX5_exchange_10 (by decide) ?_
  refine wk_lcmp C dX5_exchange_11 rfl ?_
  refine wk_if_lt C (tgt := 24) dX5_exchange_12 (by decide) (fun c44 => ?_) (fun c44 => ?_)
  · rw [if_pos c44] at h
    exact E _ _ _ _ _ (Nat.le_refl 0) (Nat.le_refl 0) dX5_exchange_24 ⟨(), rfl, h, hW, hE⟩
  · rw [if_neg c44] at h
    refine wk_aload_n C dX5_exchange_15 rfl rfl ?_
    refine wk_get C (v := .long (gInequalities_lower S l0A)) huX5_exchange_5 hl0A.1 (fun cy => wAt_5 cy _ hl0A.2) rfl 6 (by decide) (List.mem_of_getElem? (i := 3) rfl) rfl rfl dX5_exchange_16 ?_
    refine wk_lconst C (v := 1) dX5_exchange_19 (by decide) ?_
    refine wk_lcmp C dX5_exchange_20 rfl ?_
    refine wk_if_ge C (tgt := 25) dX5_exchange_21 (by decide) (fun c45 => ?_) (fun c45 => ?_)
    · rw [if_pos c45] at h
      refine wk_iconst C (v := 0) dX5_exchange_25 (by decide) ?_
      refine wk_istore C (lv' := [some (.ref l0A), some (.int l1I), some (.int l2I), some (.long x43), none, some (.int (0 : Int32)), none, none, none]) dX5_exchange_26 (by decide) rfl ?_
      exact wk_forget (lv' := [some (.ref l0A), some (.int l1I), some (.int l2I), some (.long x43), none, some (.int (0 : Int32)), none, none, none]) (wkLs.le ⟨rfl, rfl, rfl, rfl, rfl, trivial⟩) (ih.1 _ _ _ _ _ _ hW hE hl0A h)
    · rw [if_neg c45] at h
      exact E _ _ _ _ _ (Nat.le_refl 0) (Nat.le_refl 0) dX5_exchange_24 ⟨(), rfl, h, hW, hE⟩
def wvX5_rowOf : List Cond := .code yX5_rowOf cX5_rowOf 3 (some .int) :: (([.fieldLink RX5 83 "Witnessworks$Inequalities" "rows" "I", .fieldLink RX5 16 "Witnessworks$Inequalities" "rowLabels" "[I"] : List Cond) ++ ((wsX50) ++ ([])))
theorem huX5_rowOf_5 : ∀ w ∈ u_ws RX5 TX5 7, w ∈ wvX5_rowOf := fun w h => List.mem_cons_of_mem _ (List.mem_append_right _ (List.mem_append_left _ h))
theorem gdX5_rowOf : ∀ w ∈ wvX5_rowOf, wkGd w := wkGdC rfl (wkGdA (wkGdL (by decide +kernel)) (wkGdA gdX5 (fun _ h => absurd h List.not_mem_nil)))
def rX5_rowOf_b0 (F : Nat) (rec : Nat → Nat → Int32 → Int32 → wPS → (Int32 → wPS → Prop) → Prop) (l0A : Nat) (l1I : Int32) (l2I : Int32) (S : wPS) (Φ : (Int32 → wPS → Prop)) : Prop :=
  if (gInequalities_rows S l0A) ≤ l2I then (Φ (-1 : Int32) S) else (¬ (l2I < 0 ∨ S.len (wkAd (gInequalities_rowLabels S l0A)) ≤ (l2I).toNatClampNeg) ∧ if (S.rI (wkAd (gInequalities_rowLabels S l0A)) (l2I).toNatClampNeg) = l1I then (Φ l2I S) else (wkLt (l2I + (1 : Int32)) fun x4 => rec 0 l0A l1I x4 S Φ))
def rX5_rowOf_go (F : Nat) : Nat → Nat → Nat → Int32 → Int32 → wPS → (Int32 → wPS → Prop) → Prop
  | 0, _, _, _, _, _, _ => False
  | k' + 1, lab, l0A, l1I, l2I, S, Φ => if lab = 0 then rX5_rowOf_b0 F (rX5_rowOf_go F k') l0A l1I l2I S Φ else False
def rX5_rowOf_s (F : Nat) (rec : Nat → Nat → Int32 → Int32 → wPS → (Int32 → wPS → Prop) → Prop) (l0A : Nat) (l1I : Int32) (S : wPS) (Φ : (Int32 → wPS → Prop)) : Prop :=
  rec 0 l0A l1I (0 : Int32) S Φ
def rX5_rowOf (F : Nat) (l0A : Nat) (l1I : Int32) (S : wPS) (Φ : (Int32 → wPS → Prop)) : Prop := rX5_rowOf_s F (rX5_rowOf_go F F) l0A l1I S Φ
set_option maxHeartbeats 4000000 in
set_option maxRecDepth 100000 in
theorem tX5_rowOf_go {l : Launch} {X : wkX} {d F : Nat} {S0 : wPS} {Φ : (Int32 → wPS → Prop)} (C : wkC X cX5_rowOf RX5 3 wvX5_rowOf) (hR : wkRm X d 0 0) (hd : 0 ≤ d) (E : wkEnd l X cX5_rowOf 3 (some .int) 0 0 (fun v' S'' => ∃ v : Int32, v' = some (.int v) ∧ Φ v S'' ∧ wkWF S'' ∧ wkExt S0 S'')) : ∀ k' : Nat, (∀ (l0A : Nat) (l1I : Int32) (l2I : Int32) (S : wPS), wkWF S → wkExt S0 S → wkIs S l0A 5 → rX5_rowOf_go F k' 0 l0A l1I l2I S Φ → wkGo l X 3 0 0 2 S [some (.ref l0A), some (.int l1I), some (.int l2I)] []) := by
  intro k'
  induction k' with
  | zero => exact fun l0A l1I l2I S hW hE hl0A h => h.elim
  | succ k' ih =>
    · intro l0A l1I l2I S hW hE hl0A h
      have h : rX5_rowOf_b0 F (rX5_rowOf_go F k') l0A l1I l2I S Φ := by
        rw [rX5_rowOf_go, if_pos (rfl : (0 : Nat) = 0)] at h
        exact h
      unfold rX5_rowOf_b0 at h
      refine wk_iload_n C dX5_rowOf_2 rfl rfl ?_
      refine wk_aload_n C dX5_rowOf_3 rfl rfl ?_
      refine wk_get C (v := .int (gInequalities_rows S l0A)) huX5_rowOf_5 hl0A.1 (fun cy => wAt_5 cy _ hl0A.2) rfl 4 (by decide) (List.mem_of_getElem? (i := 1) rfl) rfl rfl dX5_rowOf_4 ?_
      refine wk_icmp_ge C (tgt := 28) dX5_rowOf_7 (by decide) (fun c1 => ?_) (fun c1 => ?_)
      · rw [if_pos c1] at h
        refine wk_iconst C (v := (-1)) dX5_rowOf_28 (by decide) ?_
        exact E _ _ _ _ _ _ (Nat.le_refl 0) (Nat.le_refl 0) dX5_rowOf_29 ⟨(-1 : Int32), rfl, h, hW, hE⟩
      · rw [if_neg c1] at h
        refine wk_aload_n C dX5_rowOf_10 rfl rfl ?_
        refine wk_get C huX5_rowOf_5 hl0A.1 (fun cy => wAt_5 cy _ hl0A.2) rfl 1 (by decide) (List.mem_of_getElem? (i := 2) rfl) rfl (congrArg some (congrArg va_rf (wf_Inequalities_rowLabels hW hl0A).1)) dX5_rowOf_11 ?_
        refine wk_iload_n C dX5_rowOf_14 rfl rfl ?_
        obtain ⟨i2, h⟩ := h
        refine wk_iald C (wf_Inequalities_rowLabels hW hl0A).2.1 (wf_Inequalities_rowLabels hW hl0A).2.2 i2 rfl dX5_rowOf_15 ?_
        refine wk_iload_n C dX5_rowOf_16 rfl rfl ?_
        refine wk_icmp_ne C (tgt := 22) dX5_rowOf_17 (by decide) (fun c3 => ?_) (fun c3 => ?_)
        · rw [if_neg c3] at h
          obtain ⟨x4, ex4, h⟩ := wkLt_some h
          refine wk_iinc C (lv' := [some (.ref l0A), some (.int l1I), some (.int x4)]) dX5_rowOf_22 rfl (by rw [ex4]; rfl) (by decide) rfl ?_
          refine wk_goto C (tgt := 2) dX5_rowOf_25 (by decide) ?_
          exact wk_forget (lv' := [some (.ref l0A), some (.int l1I), some (.int x4)]) (wkLs.le ⟨rfl, rfl, rfl, trivial⟩) (ih _ _ _ _ hW hE hl0A h)
        · rw [if_pos c3] at h
          refine wk_iload_n C dX5_rowOf_20 rfl rfl ?_
          exact E _ _ _ _ _ _ (Nat.le_refl 0) (Nat.le_refl 0) dX5_rowOf_21 ⟨l2I, rfl, h, hW, hE⟩
set_option maxHeartbeats 4000000 in
set_option maxRecDepth 100000 in
theorem tX5_rowOf {l : Launch} {g : wkG} {F : Nat}  {S : wPS} {l0A : Nat} {l1I : Int32} {Φ : (Int32 → wPS → Prop)} (hW : wkWF S) (hl0A : wkIs S l0A 5) (h : rX5_rowOf F l0A l1I S Φ) : wkMet l g yX5_rowOf wvX5_rowOf 0 0 0 [.ref l0A, .int l1I] S (fun v' S'' => ∃ v : Int32, v' = some (.int v) ∧ Φ v S'' ∧ wkWF S'' ∧ wkExt S S'') := by
  refine wkMet_of (ret := (some .int)) (by decide) rfl (Nat.le_of_ble_eq_true rfl) (fun X hg C hR E => ?_)
  subst hg
  have hE : wkExt S S := wkExt.rf
  have hd : 0 ≤ 0 := Nat.le_refl _
  show wkGo l X 3 0 0 0 S [some (.ref l0A), some (.int l1I), none] []
  have ih := tX5_rowOf_go (F := F) C hR hd E F
  have h : rX5_rowOf_s F (rX5_rowOf_go F F) l0A l1I S Φ := h
  unfold rX5_rowOf_s at h
  refine wk_iconst C (v := 0) dX5_rowOf_0 (by decide) ?_
  refine wk_istore_n C (lv' := [some (.ref l0A), some (.int l1I), some (.int (0 : Int32))]) dX5_rowOf_1 rfl (by decide) rfl ?_
  exact wk_forget (lv' := [some (.ref l0A), some (.int l1I), some (.int (0 : Int32))]) (wkLs.le ⟨rfl, rfl, rfl, trivial⟩) (ih _ _ _ _ hW hE hl0A h)
