def wvX5_loadWeights : List Cond := .code yX5_loadWeights cX5_loadWeights 5 none :: (([.fieldLink RX5 37 "Witnessworks$Entry" "size" "I", .fieldLink RX5 13 "Witnessworks$Inequalities" "table" "[[J", .methodLink RX5 92 yX5_limitOf, .static yX5_limitOf, .initialized RX5, .methodLink RX5 96 yX5_times, .static yX5_times, .fieldLink RX5 86 "Witnessworks$Inequalities" "columns" "I", .methodLink RX5 100 yX5_begin, .instanceMethod yX5_begin, .selects RX5 yX5_begin yX5_begin, .constantLong RX5 103 (-1), .fieldLink RX5 23 "Witnessworks$Entry" "itemCount" "I", .fieldLink RX5 83 "Witnessworks$Inequalities" "rows" "I", .methodLink RX5 89 yX5_clearTable, .instanceMethod yX5_clearTable, .selects RX5 yX5_clearTable yX5_clearTable] : List Cond) ++ ((wsX30 ++ (wsX50)) ++ (wvX5_limitOf ++ (wvX5_times ++ (wvX5_begin ++ (wvX5_clearTable))))))
theorem huX5_loadWeights_3 : ∀ w ∈ u_ws RX3 TX3 17, w ∈ wvX5_loadWeights := fun w h => List.mem_cons_of_mem _ (List.mem_append_right _ (List.mem_append_left _ (List.mem_append_left _ h)))
theorem huX5_loadWeights_5 : ∀ w ∈ u_ws RX5 TX5 7, w ∈ wvX5_loadWeights := fun w h => List.mem_cons_of_mem _ (List.mem_append_right _ (List.mem_append_left _ (List.mem_append_right _ h)))
theorem hbX5_loadWeights_X5_limitOf : ∀ w ∈ wvX5_limitOf, w ∈ wvX5_loadWeights := fun w h => List.mem_cons_of_mem _ (List.mem_append_right _ (List.mem_append_right _ (List.mem_append_left _ h)))
theorem hbX5_loadWeights_X5_times : ∀ w ∈ wvX5_times, w ∈ wvX5_loadWeights := fun w h => List.mem_cons_of_mem _ (List.mem_append_right _ (List.mem_append_right _ (List.mem_append_right _ (List.mem_append_left _ h))))
theorem hbX5_loadWeights_X5_begin : ∀ w ∈ wvX5_begin, w ∈ wvX5_loadWeights := fun w h => List.mem_cons_of_mem _ (List.mem_append_right _ (List.mem_append_right _ (List.mem_append_right _ (List.mem_append_right _ (List.mem_append_left _ h)))))
theorem hbX5_loadWeights_X5_clearTable : ∀ w ∈ wvX5_clearTable, w ∈ wvX5_loadWeights := fun w h => List.mem_cons_of_mem _ (List.mem_append_right _ (List.mem_append_right _ (List.mem_append_right _ (List.mem_append_right _ (List.mem_append_right _ h)))))
theorem gdX5_loadWeights : ∀ w ∈ wvX5_loadWeights, wkGd w := wkGdC rfl (wkGdA (wkGdL (by decide +kernel)) (wkGdA (wkGdA gdX3 gdX5) (wkGdA gdX5_limitOf (wkGdA gdX5_times (wkGdA gdX5_begin gdX5_clearTable)))))
def rX5_loadWeights_b0 (F : Nat) (rec : Nat → Nat → Nat → Int32 → Int32 → Int32 → wPS → (Unit → wPS → Prop) → Prop) (l0A : Nat) (l1A : Nat) (l2I : Int32) (l3I : Int32) (S : wPS) (Φ : (Unit → wPS → Prop)) : Prop :=
  if l2I ≤ l3I then (rec 2 l0A l1A l2I (0 : Int32) 0 S Φ) else (rec 1 l0A l1A l2I l3I (0 : Int32) S Φ)
def rX5_loadWeights_b1 (F : Nat) (rec : Nat → Nat → Nat → Int32 → Int32 → Int32 → wPS → (Unit → wPS → Prop) → Prop) (l0A : Nat) (l1A : Nat) (l2I : Int32) (l3I : Int32) (l4I : Int32) (S : wPS) (Φ : (Unit → wPS → Prop)) : Prop :=
  if (gEntry_size S l1A) ≤ l4I then (¬ ((gEntry_size S l1A) < 0 ∨ S.len (wkAd (gInequalities_table S l0A)) ≤ ((gEntry_size S l1A)).toNatClampNeg) ∧ rX5_limitOf F l1A l3I S fun v5 S6 => ¬ (l3I < 0 ∨ S6.len (wkAd (S.rA (wkAd (gInequalities_table S l0A)) ((gEntry_size S l1A)).toNatClampNeg)) ≤ (l3I).toNatClampNeg) ∧ wkLt (wuJ S6 (wkAd (S.rA (wkAd (gInequalities_table S l0A)) ((gEntry_size S l1A)).toNatClampNeg)) l3I (Int32.toInt64 (-v5))) fun S11 => wkLt (l3I + (1 : Int32)) fun x12 => rec 0 l0A l1A l2I x12 0 S11 Φ) else (¬ (l4I < 0 ∨ S.len (wkAd (gInequalities_table S l0A)) ≤ (l4I).toNatClampNeg) ∧ rX5_times F l1A l3I l4I S fun v15 S16 => ¬ (l3I < 0 ∨ S16.len (wkAd (S.rA (wkAd (gInequalities_table S l0A)) (l4I).toNatClampNeg)) ≤ (l3I).toNatClampNeg) ∧ wkLt (wuJ S16 (wkAd (S.rA (wkAd (gInequalities_table S l0A)) (l4I).toNatClampNeg)) l3I (Int32.toInt64 v15)) fun S21 => wkLt (l4I + (1 : Int32)) fun x22 => rec 1 l0A l1A l2I l3I x22 S21 Φ)
def rX5_loadWeights_b2 (F : Nat) (rec : Nat → Nat → Nat → Int32 → Int32 → Int32 → wPS → (Unit → wPS → Prop) → Prop) (l0A : Nat) (l1A : Nat) (l2I : Int32) (l3I : Int32) (S : wPS) (Φ : (Unit → wPS → Prop)) : Prop :=
  if (gEntry_size S l1A) ≤ l3I then (¬ ((gEntry_size S l1A) < 0 ∨ S.len (wkAd (gInequalities_table S l0A)) ≤ ((gEntry_size S l1A)).toNatClampNeg) ∧ ¬ ((gInequalities_columns S l0A) < 0 ∨ S.len (wkAd (S.rA (wkAd (gInequalities_table S l0A)) ((gEntry_size S l1A)).toNatClampNeg)) ≤ ((gInequalities_columns S l0A)).toNatClampNeg) ∧ wkLt (wuJ S (wkAd (S.rA (wkAd (gInequalities_table S l0A)) ((gEntry_size S l1A)).toNatClampNeg)) (gInequalities_columns S l0A) (1 : Int64)) fun S27 => rX5_begin F l0A S27 fun v28 S29 => Φ () S29) else (¬ (l3I < 0 ∨ S.len (wkAd (gInequalities_table S l0A)) ≤ (l3I).toNatClampNeg) ∧ ¬ ((l2I + l3I) < 0 ∨ S.len (wkAd (S.rA (wkAd (gInequalities_table S l0A)) (l3I).toNatClampNeg)) ≤ ((l2I + l3I)).toNatClampNeg) ∧ wkLt (wuJ S (wkAd (S.rA (wkAd (gInequalities_table S l0A)) (l3I).toNatClampNeg)) (l2I + l3I) (-1 : Int64)) fun S36 => wkLt (l3I + (1 : Int32)) fun x37 => rec 2 l0A l1A l2I x37 0 S36 Φ)
def rX5_loadWeights_go (F : Nat) : Nat → Nat → Nat → Nat → Int32 → Int32 → Int32 → wPS → (Unit → wPS → Prop) → Prop
  | 0, _, _, _, _, _, _, _, _ => False
  | k' + 1, lab, l0A, l1A, l2I, l3I, l4I, S, Φ => if lab = 0 then rX5_loadWeights_b0 F (rX5_loadWeights_go F k') l0A l1A l2I l3I S Φ else if lab = 1 then rX5_loadWeights_b1 F (rX5_loadWeights_go F k') l0A l1A l2I l3I l4I S Φ else if lab = 2 then rX5_loadWeights_b2 F (rX5_loadWeights_go F k') l0A l1A l2I l3I S Φ else False
def rX5_loadWeights_s (F : Nat) (rec : Nat → Nat → Nat → Int32 → Int32 → Int32 → wPS → (Unit → wPS → Prop) → Prop) (l0A : Nat) (l1A : Nat) (S : wPS) (Φ : (Unit → wPS → Prop)) : Prop :=
  wkLt (((gEntry_itemCount S l1A) + (1 : Int32))) fun x38 => wkLt (wu_Inequalities_rows S l0A ((gEntry_size S l1A) + (1 : Int32))) fun S39 => wkLt (wu_Inequalities_columns S39 l0A (x38 + (gEntry_size S39 l1A))) fun S40 => rX5_clearTable F l0A S40 fun v41 S42 => rec 0 l0A l1A x38 (0 : Int32) 0 S42 Φ
def rX5_loadWeights (F : Nat) (l0A : Nat) (l1A : Nat) (S : wPS) (Φ : (Unit → wPS → Prop)) : Prop := rX5_loadWeights_s F (rX5_loadWeights_go F F) l0A l1A S Φ
set_option maxHeartbeats 4000000 in
set_option maxRecDepth 100000 in
theorem tX5_loadWeights_go {l : Launch} {X : wkX} {d F : Nat} {S0 : wPS} {Φ : (Unit → wPS → Prop)} (C : wkC X cX5_loadWeights RX5 5 wvX5_loadWeights) (hR : wkRm X d 0 0) (hd : 2 ≤ d) (E : wkEnd l X cX5_loadWeights 5 none 0 0 (fun v' S'' => ∃ v : Unit, v' = none ∧ Φ v S'' ∧ wkWF S'' ∧ wkExt S0 S'')) : ∀ k' : Nat, (∀ (l0A : Nat) (l1A : Nat) (l2I : Int32) (l3I : Int32) (S : wPS), wkWF S → wkExt S0 S → wkIs S l0A 5 → wkIs S l1A 3 → rX5_loadWeights_go F k' 0 l0A l1A l2I l3I 0 S Φ → wkGo l X 5 0 0 33 S [some (.ref l0A), some (.ref l1A), some (.int l2I), some (.int l3I), none] []) ∧ (∀ (l0A : Nat) (l1A : Nat) (l2I : Int32) (l3I : Int32) (l4I : Int32) (S : wPS), wkWF S → wkExt S0 S → wkIs S l0A 5 → wkIs S l1A 3 → rX5_loadWeights_go F k' 1 l0A l1A l2I l3I l4I S Φ → wkGo l X 5 0 0 41 S [some (.ref l0A), some (.ref l1A), some (.int l2I), some (.int l3I), some (.int l4I)] []) ∧ (∀ (l0A : Nat) (l1A : Nat) (l2I : Int32) (l3I : Int32) (S : wPS), wkWF S → wkExt S0 S → wkIs S l0A 5 → wkIs S l1A 3 → rX5_loadWeights_go F k' 2 l0A l1A l2I l3I 0 S Φ → wkGo l X 5 0 0 99 S [some (.ref l0A), some (.ref l1A), some (.int l2I), some (.int l3I), none] []) := by
  intro k'
  induction k' with
  | zero => exact ⟨fun l0A l1A l2I l3I S hW hE hl0A hl1A h => h.elim, fun l0A l1A l2I l3I l4I S hW hE hl0A hl1A h => h.elim, fun l0A l1A l2I l3I S hW hE hl0A hl1A h => h.elim⟩
  | succ k' ih =>
    refine ⟨?_, ?_, ?_⟩
    · intro l0A l1A l2I l3I S hW hE hl0A hl1A h
      have h : rX5_loadWeights_b0 F (rX5_loadWeights_go F k') l0A l1A l2I l3I S Φ := by
        rw [rX5_loadWeights_go, if_pos (rfl : (0 : Nat) = 0)] at h
        exact h
      unfold rX5_loadWeights_b0 at h
      refine wk_iload_n C dX5_loadWeights_33 rfl rfl ?_
      refine wk_iload_n C dX5_loadWeights_34 rfl rfl ?_
      refine wk_icmp_ge C (tgt := 97) dX5_loadWeights_35 (by decide) (fun c1 => ?_) (fun c1 => ?_)
      · rw [if_pos c1] at h
        refine wk_iconst C (v := 0) dX5_loadWeights_97 (by decide) ?_
        refine wk_istore_n C (lv' := [some (.ref l0A), some (.ref l1A), some (.int l2I), some (.int (0 : Int32)), none]) dX5_loadWeights_98 rfl (by decide) rfl ?_
        exact wk_forget (lv' := [some (.ref l0A), some (.ref l1A), some (.int l2I), some (.int (0 : Int32)), none]) (wkLs.le ⟨rfl, rfl, rfl, rfl, trivial⟩) (ih.2.2 _ _ _ _ _ hW hE hl0A hl1A h)
      · rw [if_neg c1] at h
        refine wk_iconst C (v := 0) dX5_loadWeights_38 (by decide) ?_
        refine wk_istore C (lv' := [some (.ref l0A), some (.ref l1A), some (.int l2I), some (.int l3I), some (.int (0 : Int32))]) dX5_loadWeights_39 (by decide) rfl ?_
        exact wk_forget (lv' := [some (.ref l0A), some (.ref l1A), some (.int l2I), some (.int l3I), some (.int (0 : Int32))]) (wkLs.le ⟨rfl, rfl, rfl, rfl, rfl, trivial⟩) (ih.2.1 _ _ _ _ _ _ hW hE hl0A hl1A h)
    · intro l0A l1A l2I l3I l4I S hW hE hl0A hl1A h
      have h : rX5_loadWeights_b1 F (rX5_loadWeights_go F k') l0A l1A l2I l3I l4I S Φ := by
        rw [rX5_loadWeights_go, if_neg (show ¬ (1 : Nat) = 0 by decide), if_pos (rfl : (1 : Nat) = 1)] at h
        exact h
      unfold rX5_loadWeights_b1 at h
      refine wk_iload C dX5_loadWeights_41 rfl ?_
      refine wk_aload_n C dX5_loadWeights_43 rfl rfl ?_
      refine wk_get C (v := .int (gEntry_size S l1A)) huX5_loadWeights_3 hl1A.1 (fun cy => wAt_3 cy _ hl1A.2) rfl 1 (by decide) (List.mem_of_getElem? (i := 1) rfl) rfl rfl dX5_loadWeights_44 ?_
      refine wk_icmp_ge C (tgt := 73) dX5_loadWeights_47 (by decide) (fun c2 => ?_) (fun c2 => ?_)
      · rw [if_pos c2] at h
        refine wk_aload_n C dX5_loadWeights_73 rfl rfl ?_
        refine wk_get C huX5_loadWeights_5 hl0A.1 (fun cy => wAt_5 cy _ hl0A.2) rfl 0 (by decide) (List.mem_of_getElem? (i := 2) rfl) rfl (congrArg some (congrArg va_rf (wf_Inequalities_table hW hl0A).1)) dX5_loadWeights_74 ?_
        refine wk_aload_n C dX5_loadWeights_77 rfl rfl ?_
        refine wk_get C (v := .int (gEntry_size S l1A)) huX5_loadWeights_3 hl1A.1 (fun cy => wAt_3 cy _ hl1A.2) rfl 1 (by decide) (List.mem_of_getElem? (i := 1) rfl) rfl rfl dX5_loadWeights_78 ?_
        obtain ⟨i3, h⟩ := h
        have w4 := wf_R_J hW (wf_Inequalities_table hW hl0A).2 (Nat.not_le.mp fun q => i3 (Or.inr q))
        refine wk_aald_J C (wf_Inequalities_table hW hl0A).2.1 (wf_Inequalities_table hW hl0A).2.2 i3 w4.1 dX5_loadWeights_81 ?_
        refine wk_iload_n C dX5_loadWeights_82 rfl rfl ?_
        refine wk_aload_n C dX5_loadWeights_83 rfl rfl ?_
        refine wk_iload_n C dX5_loadWeights_84 rfl rfl ?_
        refine wk_callW C hR (As := [.ref l1A, .int l3I]) (cnt := 2) (tX5_limitOf (l := l) hW hl1A h) rfl (wkGoodW (List.mem_of_getElem? (i := 3) rfl) (List.mem_of_getElem? (i := 4) rfl) (List.mem_of_getElem? (i := 5) rfl) hbX5_loadWeights_X5_limitOf gdX5_limitOf) (Nat.le_trans (by decide : 1 + 1 ≤ 2) hd) (by decide) ⟨by decide, by decide, by decide +kernel⟩ rfl rfl (Nat.le_of_ble_eq_true rfl) (Nat.le_refl 0) (Nat.le_refl 0) dX5_loadWeights_85 (fun v' S6 hp => ?_)
        obtain ⟨v5, rfl, h, hWS6, hXS6⟩ := hp
        refine wk_ineg C dX5_loadWeights_88 rfl ?_
        refine wk_i2l C dX5_loadWeights_89 rfl ?_
        obtain ⟨i10, h⟩ := h
        obtain ⟨S11, eS11, h⟩ := wkLt_some h
        refine wk_last C (hXS6 _ _ w4.2).1 (hXS6 _ _ w4.2).2 i10 eS11.symm dX5_loadWeights_90 ?_
        have hWS11 : wkWF S11 := by rw [eS11]; exact hWS6
        have hXS11 : wkExt S6 S11 := by rw [eS11]; exact wkExt.rf
        obtain ⟨x12, ex12, h⟩ := wkLt_some h
        refine wk_iinc C (lv' := [some (.ref l0A), some (.ref l1A), some (.int l2I), some (.int x12), some (.int l4I)]) dX5_loadWeights_91 rfl (by rw [ex12]; rfl) (by decide) rfl ?_
        refine wk_goto C (tgt := 33) dX5_loadWeights_94 (by decide) ?_
        exact wk_forget (lv' := [some (.ref l0A), some (.ref l1A), some (.int l2I), some (.int x12), none]) (wkLs.le ⟨rfl, rfl, rfl, rfl, trivial⟩) (ih.1 _ _ _ _ _ hWS11 (wkExt.tr (wkExt.tr hE hXS6) hXS11) (hXS11 _ _ (hXS6 _ _ hl0A)) (hXS11 _ _ (hXS6 _ _ hl1A)) h)
      · rw [if_neg c2] at h
        refine wk_aload_n C dX5_loadWeights_50 rfl rfl ?_
        refine wk_get C huX5_loadWeights_5 hl0A.1 (fun cy => wAt_5 cy _ hl0A.2) rfl 0 (by decide) (List.mem_of_getElem? (i := 2) rfl) rfl (congrArg some (congrArg va_rf (wf_Inequalities_table hW hl0A).1)) dX5_loadWeights_51 ?_
        refine wk_iload C dX5_loadWeights_54 rfl ?_
        obtain ⟨i13, h⟩ := h
        have w14 := wf_R_J hW (wf_Inequalities_table hW hl0A).2 (Nat.not_le.mp fun q => i13 (Or.inr q))
        refine wk_aald_J C (wf_Inequalities_table hW hl0A).2.1 (wf_Inequalities_table hW hl0A).2.2 i13 w14.1 dX5_loadWeights_56 ?_
        refine wk_iload_n C dX5_loadWeights_57 rfl rfl ?_
        refine wk_aload_n C dX5_loadWeights_58 rfl rfl ?_
        refine wk_iload_n C dX5_loadWeights_59 rfl rfl ?_
        refine wk_iload C dX5_loadWeights_60 rfl ?_
        refine wk_callW C hR (As := [.ref l1A, .int l3I, .int l4I]) (cnt := 3) (tX5_times (l := l) hW hl1A h) rfl (wkGoodW (List.mem_of_getElem? (i := 6) rfl) (List.mem_of_getElem? (i := 7) rfl) (List.mem_of_getElem? (i := 5) rfl) hbX5_loadWeights_X5_times gdX5_times) (Nat.le_trans (by decide : 1 + 1 ≤ 2) hd) (by decide) ⟨by decide, by decide, by decide +kernel⟩ rfl rfl (Nat.le_of_ble_eq_true rfl) (Nat.le_refl 0) (Nat.le_refl 0) dX5_loadWeights_62 (fun v' S16 hp => ?_)
        obtain ⟨v15, rfl, h, hWS16, hXS16⟩ := hp
        refine wk_i2l C dX5_loadWeights_65 rfl ?_
        obtain ⟨i20, h⟩ := h
        obtain ⟨S21, eS21, h⟩ := wkLt_some h
        refine wk_last C (hXS16 _ _ w14.2).1 (hXS16 _ _ w14.2).2 i20 eS21.symm dX5_loadWeights_66 ?_
        have hWS21 : wkWF S21 := by rw [eS21]; exact hWS16
        have hXS21 : wkExt S16 S21 := by rw [eS21]; exact wkExt.rf
        obtain ⟨x22, ex22, h⟩ := wkLt_some h
        refine wk_iinc C (lv' := [some (.ref l0A), some (.ref l1A), some (.int l2I), some (.int l3I), some (.int x22)]) dX5_loadWeights_67 rfl (by rw [ex22]; rfl) (by decide) rfl ?_
        refine wk_goto C (tgt := 41) dX5_loadWeights_70 (by decide) ?_
        exact wk_forget (lv' := [some (.ref l0A), some (.ref l1A), some (.int l2I), some (.int l3I), some (.int x22)]) (wkLs.le ⟨rfl, rfl, rfl, rfl, rfl, trivial⟩) (ih.2.1 _ _ _ _ _ _ hWS21 (wkExt.tr (wkExt.tr hE hXS16) hXS21) (hXS21 _ _ (hXS16 _ _ hl0A)) (hXS21 _ _ (hXS16 _ _ hl1A)) h)
    · intro l0A l1A l2I l3I S hW hE hl0A hl1A h
      have h : rX5_loadWeights_b2 F (rX5_loadWeights_go F k') l0A l1A l2I l3I S Φ := by
        rw [rX5_loadWeights_go, if_neg (show ¬ (2 : Nat) = 0 by decide), if_neg (show ¬ (2 : Nat) = 1 by decide), if_pos (rfl : (2 : Nat) = 2)] at h
        exact h
      unfold rX5_loadWeights_b2 at h
      refine wk_iload_n C dX5_loadWeights_99 rfl rfl ?_
      refine wk_aload_n C dX5_loadWeights_100 rfl rfl ?_
      refine wk_get C (v := .int (gEntry_size S l1A)) huX5_loadWeights_3 hl1A.1 (fun cy => wAt_3 cy _ hl1A.2) rfl 1 (by decide) (List.mem_of_getElem? (i := 1) rfl) rfl rfl dX5_loadWeights_101 ?_
      refine wk_icmp_ge C (tgt := 126) dX5_loadWeights_104 (by decide) (fun c23 => ?_) (fun c23 => ?_)
      · rw [if_pos c23] at h
        refine wk_aload_n C dX5_loadWeights_126 rfl rfl ?_
        refine wk_get C huX5_loadWeights_5 hl0A.1 (fun cy => wAt_5 cy _ hl0A.2) rfl 0 (by decide) (List.mem_of_getElem? (i := 2) rfl) rfl (congrArg some (congrArg va_rf (wf_Inequalities_table hW hl0A).1)) dX5_loadWeights_127 ?_
        refine wk_aload_n C dX5_loadWeights_130 rfl rfl ?_
        refine wk_get C (v := .int (gEntry_size S l1A)) huX5_loadWeights_3 hl1A.1 (fun cy => wAt_3 cy _ hl1A.2) rfl 1 (by decide) (List.mem_of_getElem? (i := 1) rfl) rfl rfl dX5_loadWeights_131 ?_
        obtain ⟨i24, h⟩ := h
        have w25 := wf_R_J hW (wf_Inequalities_table hW hl0A).2 (Nat.not_le.mp fun q => i24 (Or.inr q))
        refine wk_aald_J C (wf_Inequalities_table hW hl0A).2.1 (wf_Inequalities_table hW hl0A).2.2 i24 w25.1 dX5_loadWeights_134 ?_
        refine wk_aload_n C dX5_loadWeights_135 rfl rfl ?_
        refine wk_get C (v := .int (gInequalities_columns S l0A)) huX5_loadWeights_5 hl0A.1 (fun cy => wAt_5 cy _ hl0A.2) rfl 5 (by decide) (List.mem_of_getElem? (i := 8) rfl) rfl rfl dX5_loadWeights_136 ?_
        refine wk_lconst C (v := 1) dX5_loadWeights_139 (by decide) ?_
        obtain ⟨i26, h⟩ := h
        obtain ⟨S27, eS27, h⟩ := wkLt_some h
        refine wk_last C w25.2.1 w25.2.2 i26 eS27.symm dX5_loadWeights_140 ?_
        have hWS27 : wkWF S27 := by rw [eS27]; exact hW
        have hXS27 : wkExt S S27 := by rw [eS27]; exact wkExt.rf
        refine wk_aload_n C dX5_loadWeights_141 rfl rfl ?_
        refine wk_callV C hR (As := []) (cnt := 0) (tX5_begin (l := l) hWS27 (hXS27 _ _ hl0A) h) rfl (wkGoodV (List.mem_of_getElem? (i := 9) rfl) (List.mem_of_getElem? (i := 10) rfl) (List.mem_of_getElem? (i := 11) rfl) (List.mem_of_getElem? (i := 5) rfl) hbX5_loadWeights_X5_begin gdX5_begin) (Nat.le_trans (by decide : 0 + 1 ≤ 2) hd) (by decide) (hXS27 _ _ hl0A).1 (fun cy => wAt_5 cy _ (hXS27 _ _ hl0A).2) rfl ⟨by decide, by decide, by decide +kernel⟩ rfl rfl (Nat.le_of_ble_eq_true rfl) (Nat.le_refl 0) (Nat.le_refl 0) dX5_loadWeights_142 (fun v' S29 hp => ?_)
        obtain ⟨v28, rfl, h, hWS29, hXS29⟩ := hp
        exact E _ _ _ _ _ (Nat.le_refl 0) (Nat.le_refl 0) dX5_loadWeights_145 ⟨(), rfl, h, hWS29, (wkExt.tr (wkExt.tr hE hXS27) hXS29)⟩
      · rw [if_neg c23] at h
        refine wk_aload_n C dX5_loadWeights_107 rfl rfl ?_
        refine wk_get C huX5_loadWeights_5 hl0A.1 (fun cy => wAt_5 cy _ hl0A.2) rfl 0 (by decide) (List.mem_of_getElem? (i := 2) rfl) rfl (congrArg some (congrArg va_rf (wf_Inequalities_table hW hl0A).1)) dX5_loadWeights_108 ?_
        refine wk_iload_n C dX5_loadWeights_111 rfl rfl ?_
        obtain ⟨i33, h⟩ := h
        have w34 := wf_R_J hW (wf_Inequalities_table hW hl0A).2 (Nat.not_le.mp fun q => i33 (Or.inr q))
        refine wk_aald_J C (wf_Inequalities_table hW hl0A).2.1 (wf_Inequalities_table hW hl0A).2.2 i33 w34.1 dX5_loadWeights_112 ?_
        refine wk_iload_n C dX5_loadWeights_113 rfl rfl ?_
        refine wk_iload_n C dX5_loadWeights_114 rfl rfl ?_
        refine wk_iadd C dX5_loadWeights_115 rfl ?_
        refine wk_ldc2 C (v := (-1)) (List.mem_of_getElem? (i := 12) rfl) dX5_loadWeights_116 ?_
        obtain ⟨i35, h⟩ := h
        obtain ⟨S36, eS36, h⟩ := wkLt_some h
        refine wk_last C w34.2.1 w34.2.2 i35 eS36.symm dX5_loadWeights_119 ?_
        have hWS36 : wkWF S36 := by rw [eS36]; exact hW
        have hXS36 : wkExt S S36 := by rw [eS36]; exact wkExt.rf
        obtain ⟨x37, ex37, h⟩ := wkLt_some h
        refine wk_iinc C (lv' := [some (.ref l0A), some (.ref l1A), some (.int l2I), some (.int x37), none]) dX5_loadWeights_120 rfl (by rw [ex37]; rfl) (by decide) rfl ?_
        refine wk_goto C (tgt := 99) dX5_loadWeights_123 (by decide) ?_
        exact wk_forget (lv' := [some (.ref l0A), some (.ref l1A), some (.int l2I), some (.int x37), none]) (wkLs.le ⟨rfl, rfl, rfl, rfl, trivial⟩) (ih.2.2 _ _ _ _ _ hWS36 (wkExt.tr hE hXS36) (hXS36 _ _ hl0A) (hXS36 _ _ hl1A) h)
set_option maxHeartbeats 4000000 in
set_option maxRecDepth 100000 in
theorem tX5_loadWeights {l : Launch} {g : wkG} {F : Nat}  {S : wPS} {l0A : Nat} {l1A : Nat} {Φ : (Unit → wPS → Prop)} (hW : wkWF S) (hl0A : wkIs S l0A 5) (hl1A : wkIs S l1A 3) (h : rX5_loadWeights F l0A l1A S Φ) : wkMet l g yX5_loadWeights wvX5_loadWeights 2 0 0 [.ref l0A, .ref l1A] S (fun v' S'' => ∃ v : Unit, v' = none ∧ Φ v S'' ∧ wkWF S'' ∧ wkExt S S'') := by
  refine wkMet_of (ret := none) (by decide) rfl (Nat.le_of_ble_eq_true rfl) (fun X hg C hR E => ?_)
  subst hg
  have hE : wkExt S S := wkExt.rf
  have hd : 2 ≤ 2 := Nat.le_refl _
  show wkGo l X 5 0 0 0 S [some (.ref l0A), some (.ref l1A), none, none, none] []
  have ih := tX5_loadWeights_go (F := F) C hR hd E F
  have h : rX5_loadWeights_s F (rX5_loadWeights_go F F) l0A l1A S Φ := h
  unfold rX5_loadWeights_s at h
  refine wk_aload_n C dX5_loadWeights_0 rfl rfl ?_
  refine wk_get C (v := .int (gEntry_itemCount S l1A)) huX5_loadWeights_3 hl1A.1 (fun cy => wAt_3 cy _ hl1A.2) rfl 6 (by decide) (List.mem_of_getElem? (i := 13) rfl) rfl rfl dX5_loadWeights_1 ?_
  refine wk_iconst C (v := 1) dX5_loadWeights_4 (by decide) ?_
  refine wk_iadd C dX5_loadWeights_5 rfl ?_
  obtain ⟨x38, ex38, h⟩ := wkLt_some h
  refine wk_topi ex38 ?_
  refine wk_istore_n C (lv' := [some (.ref l0A), some (.ref l1A), some (.int x38), none, none]) dX5_loadWeights_6 rfl (by decide) rfl ?_
  refine wk_aload_n C dX5_loadWeights_7 rfl rfl ?_
  refine wk_aload_n C dX5_loadWeights_8 rfl rfl ?_
  refine wk_get C (v := .int (gEntry_size S l1A)) huX5_loadWeights_3 hl1A.1 (fun cy => wAt_3 cy _ hl1A.2) rfl 1 (by decide) (List.mem_of_getElem? (i := 1) rfl) rfl rfl dX5_loadWeights_9 ?_
  refine wk_iconst C (v := 1) dX5_loadWeights_12 (by decide) ?_
  refine wk_iadd C dX5_loadWeights_13 rfl ?_
  obtain ⟨S39, eS39, h⟩ := wkLt_some h
  refine wk_put C (S' := S39) huX5_loadWeights_5 hl0A.1 (fun cy => wAt_5 cy _ hl0A.2) rfl 4 (by decide) (List.mem_of_getElem? (i := 14) rfl) rfl tyX5_ok nmX5 rfl (ty := .int) rfl rfl rfl (by show 4 < 7; decide) (fun cy b => by rw [eS39]; exact wSt_5_4 cy _ hl0A.2 _ b) (by rw [eS39]) dX5_loadWeights_14 ?_
  have hWS39 : wkWF S39 := by rw [eS39]; exact hW
  have hXS39 : wkExt S S39 := by rw [eS39]; exact wkExt.rf
  refine wk_aload_n C dX5_loadWeights_17 rfl rfl ?_
  refine wk_iload_n C dX5_loadWeights_18 rfl rfl ?_
  refine wk_aload_n C dX5_loadWeights_19 rfl rfl ?_
  refine wk_get C (v := .int (gEntry_size S39 l1A)) huX5_loadWeights_3 (hXS39 _ _ hl1A).1 (fun cy => wAt_3 cy _ (hXS39 _ _ hl1A).2) rfl 1 (by decide) (List.mem_of_getElem? (i := 1) rfl) rfl rfl dX5_loadWeights_20 ?_
  refine wk_iadd C dX5_loadWeights_23 rfl ?_
  obtain ⟨S40, eS40, h⟩ := wkLt_some h
  refine wk_put C (S' := S40) huX5_loadWeights_5 (hXS39 _ _ hl0A).1 (fun cy => wAt_5 cy _ (hXS39 _ _ hl0A).2) rfl 5 (by decide) (List.mem_of_getElem? (i := 8) rfl) rfl tyX5_ok nmX5 rfl (ty := .int) rfl rfl rfl (by show 5 < 7; decide) (fun cy b => by rw [eS40]; exact wSt_5_5 cy _ (hXS39 _ _ hl0A).2 _ b) (by rw [eS40]) dX5_loadWeights_24 ?_
  have hWS40 : wkWF S40 := by rw [eS40]; exact hWS39
  have hXS40 : wkExt S39 S40 := by rw [eS40]; exact wkExt.rf
  refine wk_aload_n C dX5_loadWeights_27 rfl rfl ?_
  refine wk_callV C hR (As := []) (cnt := 0) (tX5_clearTable (l := l) hWS40 (hXS40 _ _ (hXS39 _ _ hl0A)) h) rfl (wkGoodV (List.mem_of_getElem? (i := 15) rfl) (List.mem_of_getElem? (i := 16) rfl) (List.mem_of_getElem? (i := 17) rfl) (List.mem_of_getElem? (i := 5) rfl) hbX5_loadWeights_X5_clearTable gdX5_clearTable) (Nat.le_trans (by decide : 1 + 1 ≤ 2) hd) (by decide) (hXS40 _ _ (hXS39 _ _ hl0A)).1 (fun cy => wAt_5 cy _ (hXS40 _ _ (hXS39 _ _ hl0A)).2) rfl ⟨by decide, by decide, by decide +kernel⟩ rfl rfl (Nat.le_of_ble_eq_true rfl) (Nat.le_refl 0) (Nat.le_refl 0) dX5_loadWeights_28 (fun v' S42 hp => ?_)
  obtain ⟨v41, rfl, h, hWS42, hXS42⟩ := hp
  refine wk_iconst C (v := 0) dX5_loadWeights_31 (by decide) ?_
  refine wk_istore_n C (lv' := [some (.ref l0A), some (.ref l1A), some (.int x38), some (.int (0 : Int32)), none]) dX5_loadWeights_32 rfl (by decide) rfl ?_
  exact wk_forget (lv' := [some (.ref l0A), some (.ref l1A), some (.int x38), some (.int (0 : Int32)), none]) (wkLs.le ⟨rfl, rfl, rfl, rfl, trivial⟩) (ih.1 _ _ _ _ _ hWS42 (wkExt.tr (wkExt.tr (wkExt.tr hE hXS39) hXS40) hXS42) (hXS42 _ _ (hXS40 _ _ (hXS39 _ _ hl0A))) (hXS42 _ _ (hXS40 _ _ (hXS39 _ _ hl1A))) h)
def wvX5_isFulfilled : List Cond := .code yX5_isFulfilled cX5_isFulfilled 2 (some .boolean) :: (([.constant RX5 114 (100000), .fieldLink RX5 83 "Witnessworks$Inequalities" "rows" "I", .methodLink RX5 119 yX5_lockRising, .instanceMethod yX5_lockRising, .selects RX5 yX5_lockRising yX5_lockRising, .initialized RX5, .fieldLink RX5 13 "Witnessworks$Inequalities" "table" "[[J", .fieldLink RX5 86 "Witnessworks$Inequalities" "columns" "I", .methodLink RX5 115 yX5_improves, .instanceMethod yX5_improves, .selects RX5 yX5_improves yX5_improves] : List Cond) ++ ((wsX50) ++ (wvX5_lockRising ++ (wvX5_improves))))
theorem huX5_isFulfilled_5 : ∀ w ∈ u_ws RX5 TX5 7, w ∈ wvX5_isFulfilled := fun w h => List.mem_cons_of_mem _ (List.mem_append_right _ (List.mem_append_left _ h))
theorem hbX5_isFulfilled_X5_lockRising : ∀ w ∈ wvX5_lockRising, w ∈ wvX5_isFulfilled := fun w h => List.mem_cons_of_mem _ (List.mem_append_right _ (List.mem_append_right _ (List.mem_append_left _ h)))
theorem hbX5_isFulfilled_X5_improves : ∀ w ∈ wvX5_improves, w ∈ wvX5_isFulfilled := fun w h => List.mem_cons_of_mem _ (List.mem_append_right _ (List.mem_append_right _ (List.mem_append_right _ h)))
theorem gdX5_isFulfilled : ∀ w ∈ wvX5_isFulfilled, wkGd w := wkGdC rfl (wkGdA (wkGdL (by decide +kernel)) (wkGdA gdX5 (wkGdA gdX5_lockRising gdX5_improves)))
def rX5_isFulfilled_b0 (F : Nat) (rec : Nat → Nat → Int32 → wPS → (Int32 → wPS → Prop) → Prop) (l0A : Nat) (l1I : Int32) (S : wPS) (Φ : (Int32 → wPS → Prop)) : Prop :=
  if (100000 : Int32) ≤ l1I then (rX5_lockRising F l0A (gInequalities_rows S l0A) S fun v2 S3 => ¬ ((gInequalities_rows S3 l0A) < 0 ∨ S3.len (wkAd (gInequalities_table S3 l0A)) ≤ ((gInequalities_rows S3 l0A)).toNatClampNeg) ∧ ¬ ((gInequalities_columns S3 l0A) < 0 ∨ S3.len (wkAd (S3.rA (wkAd (gInequalities_table S3 l0A)) ((gInequalities_rows S3 l0A)).toNatClampNeg)) ≤ ((gInequalities_columns S3 l0A)).toNatClampNeg) ∧ if (lg_cmp (S3.rJ (wkAd (S3.rA (wkAd (gInequalities_table S3 l0A)) ((gInequalities_rows S3 l0A)).toNatClampNeg)) ((gInequalities_columns S3 l0A)).toNatClampNeg) (0 : Int64)) = 0 then (Φ (1 : Int32) S3) else (Φ (0 : Int32) S3)) else (rX5_improves F l0A (gInequalities_rows S l0A) S fun v11 S12 => if v11 = 0 then (rX5_lockRising F l0A (gInequalities_rows S12 l0A) S12 fun v18 S19 => ¬ ((gInequalities_rows S19 l0A) < 0 ∨ S19.len (wkAd (gInequalities_table S19 l0A)) ≤ ((gInequalities_rows S19 l0A)).toNatClampNeg) ∧ ¬ ((gInequalities_columns S19 l0A) < 0 ∨ S19.len (wkAd (S19.rA (wkAd (gInequalities_table S19 l0A)) ((gInequalities_rows S19 l0A)).toNatClampNeg)) ≤ ((gInequalities_columns S19 l0A)).toNatClampNeg) ∧ if (lg_cmp (S19.rJ (wkAd (S19.rA (wkAd (gInequalities_table S19 l0A)) ((gInequalities_rows S19 l0A)).toNatClampNeg)) ((gInequalities_columns S19 l0A)).toNatClampNeg) (0 : Int64)) = 0 then (Φ (1 : Int32) S19) else (Φ (0 : Int32) S19)) else (wkLt (l1I + (1 : Int32)) fun x17 => rec 0 l0A x17 S12 Φ))
def rX5_isFulfilled_go (F : Nat) : Nat → Nat → Nat → Int32 → wPS → (Int32 → wPS → Prop) → Prop
  | 0, _, _, _, _, _ => False
  | k' + 1, lab, l0A, l1I, S, Φ => if lab = 0 then rX5_isFulfilled_b0 F (rX5_isFulfilled_go F k') l0A l1I S Φ else False
def rX5_isFulfilled_s (F : Nat) (rec : Nat → Nat → Int32 → wPS → (Int32 → wPS → Prop) → Prop) (l0A : Nat) (S : wPS) (Φ : (Int32 → wPS → Prop)) : Prop :=
  rec 0 l0A (0 : Int32) S Φ
def rX5_isFulfilled (F : Nat) (l0A : Nat) (S : wPS) (Φ : (Int32 → wPS → Prop)) : Prop := rX5_isFulfilled_s F (rX5_isFulfilled_go F F) l0A S Φ
set_option maxHeartbeats 4000000 in
set_option maxRecDepth 100000 in
theorem tX5_isFulfilled_go {l : Launch} {X : wkX} {d F : Nat} {S0 : wPS} {Φ : (Int32 → wPS → Prop)} (C : wkC X cX5_isFulfilled RX5 2 wvX5_isFulfilled) (hR : wkRm X d 0 0) (hd : 3 ≤ d) (E : wkEnd l X cX5_isFulfilled 2 (some .boolean) 0 0 (fun v' S'' => ∃ v : Int32, v' = some (.int v) ∧ Φ v S'' ∧ wkWF S'' ∧ wkExt S0 S'')) : ∀ k' : Nat, (∀ (l0A : Nat) (l1I : Int32) (S : wPS), wkWF S → wkExt S0 S → wkIs S l0A 5 → rX5_isFulfilled_go F k' 0 l0A l1I S Φ → wkGo l X 2 0 0 2 S [some (.ref l0A), some (.int l1I)] []) := by
  intro k'
  induction k' with
  | zero => exact fun l0A l1I S hW hE hl0A h => h.elim
  | succ k' ih =>
    · intro l0A l1I S hW hE hl0A h
      have h : rX5_isFulfilled_b0 F (rX5_isFulfilled_go F k') l0A l1I S Φ := by
        rw [rX5_isFulfilled_go, if_pos (rfl : (0 : Nat) = 0)] at h
        exact h
      unfold rX5_isFulfilled_b0 at h
      refine wk_iload_n C dX5_isFulfilled_2 rfl rfl ?_
      refine wk_ldc C (v := 100000) (List.mem_of_getElem? (i := 1) rfl) dX5_isFulfilled_3 ?_
      refine wk_icmp_ge C (tgt := 28) dX5_isFulfilled_5 (by decide) (fun c1 => ?_) (fun c1 => ?_)
      · rw [if_pos c1] at h
        refine wk_aload_n C dX5_isFulfilled_28 rfl rfl ?_
        refine wk_aload_n C dX5_isFulfilled_29 rfl rfl ?_
        refine wk_get C (v := .int (gInequalities_rows S l0A)) huX5_isFulfilled_5 hl0A.1 (fun cy => wAt_5 cy _ hl0A.2) rfl 4 (by decide) (List.mem_of_getElem? (i := 2) rfl) rfl rfl dX5_isFulfilled_30 ?_
        refine wk_callV C hR (As := [.int (gInequalities_rows S l0A)]) (cnt := 1) (tX5_lockRising (l := l) hW hl0A h) rfl (wkGoodV (List.mem_of_getElem? (i := 3) rfl) (List.mem_of_getElem? (i := 4) rfl) (List.mem_of_getElem? (i := 5) rfl) (List.mem_of_getElem? (i := 6) rfl) hbX5_isFulfilled_X5_lockRising gdX5_lockRising) (Nat.le_trans (by decide : 0 + 1 ≤ 3) hd) (by decide) hl0A.1 (fun cy => wAt_5 cy _ hl0A.2) rfl ⟨by decide, by decide, by decide +kernel⟩ rfl rfl (Nat.le_of_ble_eq_true rfl) (Nat.le_refl 0) (Nat.le_refl 0) dX5_isFulfilled_33 (fun v' S3 hp => ?_)
        obtain ⟨v2, rfl, h, hWS3, hXS3⟩ := hp
        refine wk_aload_n C dX5_isFulfilled_36 rfl rfl ?_
        refine wk_get C huX5_isFulfilled_5 (hXS3 _ _ hl0A).1 (fun cy => wAt_5 cy _ (hXS3 _ _ hl0A).2) rfl 0 (by decide) (List.mem_of_getElem? (i := 7) rfl) rfl (congrArg some (congrArg va_rf (wf_Inequalities_table hWS3 (hXS3 _ _ hl0A)).1)) dX5_isFulfilled_37 ?_
        refine wk_aload_n C dX5_isFulfilled_40 rfl rfl ?_
        refine wk_get C (v := .int (gInequalities_rows S3 l0A)) huX5_isFulfilled_5 (hXS3 _ _ hl0A).1 (fun cy => wAt_5 cy _ (hXS3 _ _ hl0A).2) rfl 4 (by decide) (List.mem_of_getElem? (i := 2) rfl) rfl rfl dX5_isFulfilled_41 ?_
        obtain ⟨i7, h⟩ := h
        have w8 := wf_R_J hWS3 (wf_Inequalities_table hWS3 (hXS3 _ _ hl0A)).2 (Nat.not_le.mp fun q => i7 (Or.inr q))
        refine wk_aald_J C (wf_Inequalities_table hWS3 (hXS3 _ _ hl0A)).2.1 (wf_Inequalities_table hWS3 (hXS3 _ _ hl0A)).2.2 i7 w8.1 dX5_isFulfilled_44 ?_
        refine wk_aload_n C dX5_isFulfilled_45 rfl rfl ?_
        refine wk_get C (v := .int (gInequalities_columns S3 l0A)) huX5_isFulfilled_5 (hXS3 _ _ hl0A).1 (fun cy => wAt_5 cy _ (hXS3 _ _ hl0A).2) rfl 5 (by decide) (List.mem_of_getElem? (i := 8) rfl) rfl rfl dX5_isFulfilled_46 ?_
        obtain ⟨i9, h⟩ := h
        refine wk_lald C w8.2.1 w8.2.2 i9 rfl dX5_isFulfilled_49 ?_
        refine wk_lconst C (v := 0) dX5_isFulfilled_50 (by decide) ?_
        refine wk_lcmp C dX5_isFulfilled_51 rfl ?_
        refine wk_if_ne C (tgt := 59) dX5_isFulfilled_52 (by decide) (fun c10 => ?_) (fun c10 => ?_)
        · rw [if_neg c10] at h
          refine wk_iconst C (v := 0) dX5_isFulfilled_59 (by decide) ?_
          exact E _ _ _ _ _ _ (Nat.le_refl 0) (Nat.le_refl 0) dX5_isFulfilled_60 rfl ⟨(0 : Int32), rfl, h, hWS3, (wkExt.tr hE hXS3)⟩
        · rw [if_pos c10] at h
          refine wk_iconst C (v := 1) dX5_isFulfilled_55 (by decide) ?_
          refine wk_goto C (tgt := 60) dX5_isFulfilled_56 (by decide) ?_
          exact E _ _ _ _ _ _ (Nat.le_refl 0) (Nat.le_refl 0) dX5_isFulfilled_60 rfl ⟨(1 : Int32), rfl, h, hWS3, (wkExt.tr hE hXS3)⟩
      · rw [if_neg c1] at h
        refine wk_aload_n C dX5_isFulfilled_8 rfl rfl ?_
        refine wk_aload_n C dX5_isFulfilled_9 rfl rfl ?_
        refine wk_get C (v := .int (gInequalities_rows S l0A)) huX5_isFulfilled_5 hl0A.1 (fun cy => wAt_5 cy _ hl0A.2) rfl 4 (by decide) (List.mem_of_getElem? (i := 2) rfl) rfl rfl dX5_isFulfilled_10 ?_
        refine wk_callV C hR (As := [.int (gInequalities_rows S l0A)]) (cnt := 1) (tX5_improves (l := l) hW hl0A h) rfl (wkGoodV (List.mem_of_getElem? (i := 9) rfl) (List.mem_of_getElem? (i := 10) rfl) (List.mem_of_getElem? (i := 11) rfl) (List.mem_of_getElem? (i := 6) rfl) hbX5_isFulfilled_X5_improves gdX5_improves) (Nat.le_trans (by decide : 2 + 1 ≤ 3) hd) (by decide) hl0A.1 (fun cy => wAt_5 cy _ hl0A.2) rfl ⟨by decide, by decide, by decide +kernel⟩ rfl rfl (Nat.le_of_ble_eq_true rfl) (Nat.le_refl 0) (Nat.le_refl 0) dX5_isFulfilled_13 (fun v' S12 hp => ?_)
        obtain ⟨v11, rfl, h, hWS12, hXS12⟩ := hp
        refine wk_if_ne C (tgt := 22) dX5_isFulfilled_16 (by decide) (fun c16 => ?_) (fun c16 => ?_)
        · rw [if_neg c16] at h
          obtain ⟨x17, ex17, h⟩ := wkLt_some h
          refine wk_iinc C (lv' := [some (.ref l0A), some (.int x17)]) dX5_isFulfilled_22 rfl (by rw [ex17]; rfl) (by decide) rfl ?_
          refine wk_goto C (tgt := 2) dX5_isFulfilled_25 (by decide) ?_
          exact wk_forget (lv' := [some (.ref l0A), some (.int x17)]) (wkLs.le ⟨rfl, rfl, trivial⟩) (ih _ _ _ hWS12 (wkExt.tr hE hXS12) (hXS12 _ _ hl0A) h)
        · rw [if_pos c16] at h
          refine wk_goto C (tgt := 28) dX5_isFulfilled_19 (by decide) ?_
          refine wk_aload_n C dX5_isFulfilled_28 rfl rfl ?_
          refine wk_aload_n C dX5_isFulfilled_29 rfl rfl ?_
          refine wk_get C (v := .int (gInequalities_rows S12 l0A)) huX5_isFulfilled_5 (hXS12 _ _ hl0A).1 (fun cy => wAt_5 cy _ (hXS12 _ _ hl0A).2) rfl 4 (by decide) (List.mem_of_getElem? (i := 2) rfl) rfl rfl dX5_isFulfilled_30 ?_
          refine wk_callV C hR (As := [.int (gInequalities_rows S12 l0A)]) (cnt := 1) (tX5_lockRising (l := l) hWS12 (hXS12 _ _ hl0A) h) rfl (wkGoodV (List.mem_of_getElem? (i := 3) rfl) (List.mem_of_getElem? (i := 4) rfl) (List.mem_of_getElem? (i := 5) rfl) (List.mem_of_getElem? (i := 6) rfl) hbX5_isFulfilled_X5_lockRising gdX5_lockRising) (Nat.le_trans (by decide : 0 + 1 ≤ 3) hd) (by decide) (hXS12 _ _ hl0A).1 (fun cy => wAt_5 cy _ (hXS12 _ _ hl0A).2) rfl ⟨by decide, by decide, by decide +kernel⟩ rfl rfl (Nat.le_of_ble_eq_true rfl) (Nat.le_refl 0) (Nat.le_refl 0) dX5_isFulfilled_33 (fun v' S19 hp => ?_)
          obtain ⟨v18, rfl, h, hWS19, hXS19⟩ := hp
          refine wk_aload_n C dX5_isFulfilled_36 rfl rfl ?_
          refine wk_get C huX5_isFulfilled_5 (hXS19 _ _ (hXS12 _ _ hl0A)).1 (fun cy => wAt_5 cy _ (hXS19 _ _ (hXS12 _ _ hl0A)).2) rfl 0 (by decide) (List.mem_of_getElem? (i := 7) rfl) rfl (congrArg some (congrArg va_rf (wf_Inequalities_table hWS19 (hXS19 _ _ (hXS12 _ _ hl0A))).1)) dX5_isFulfilled_37 ?_
          refine wk_aload_n C dX5_isFulfilled_40 rfl rfl ?_
          refine wk_get C (v := .int (gInequalities_rows S19 l0A)) huX5_isFulfilled_5 (hXS19 _ _ (hXS12 _ _ hl0A)).1 (fun cy => wAt_5 cy _ (hXS19 _ _ (hXS12 _ _ hl0A)).2) rfl 4 (by decide) (List.mem_of_getElem? (i := 2) rfl) rfl rfl dX5_isFulfilled_41 ?_
          obtain ⟨i23, h⟩ := h
          have w24 := wf_R_J hWS19 (wf_Inequalities_table hWS19 (hXS19 _ _ (hXS12 _ _ hl0A))).2 (Nat.not_le.mp fun q => i23 (Or.inr q))
          refine wk_aald_J C (wf_Inequalities_table hWS19 (hXS19 _ _ (hXS12 _ _ hl0A))).2.1 (wf_Inequalities_table hWS19 (hXS19 _ _ (hXS12 _ _ hl0A))).2.2 i23 w24.1 dX5_isFulfilled_44 ?_
          refine wk_aload_n C dX5_isFulfilled_45 rfl rfl ?_
          refine wk_get C (v := .int (gInequalities_columns S19 l0A)) huX5_isFulfilled_5 (hXS19 _ _ (hXS12 _ _ hl0A)).1 (fun cy => wAt_5 cy _ (hXS19 _ _ (hXS12 _ _ hl0A)).2) rfl 5 (by decide) (List.mem_of_getElem? (i := 8) rfl) rfl rfl dX5_isFulfilled_46 ?_
          obtain ⟨i25, h⟩ := h
          refine wk_lald C w24.2.1 w24.2.2 i25 rfl dX5_isFulfilled_49 ?_
          refine wk_lconst C (v := 0) dX5_isFulfilled_50 (by decide) ?_
          refine wk_lcmp C dX5_isFulfilled_51 rfl ?_
          refine wk_if_ne C (tgt := 59) dX5_isFulfilled_52 (by decide) (fun c26 => ?_) (fun c26 => ?_)
          · rw [if_neg c26] at h
            refine wk_iconst C (v := 0) dX5_isFulfilled_59 (by decide) ?_
            exact E _ _ _ _ _ _ (Nat.le_refl 0) (Nat.le_refl 0) dX5_isFulfilled_60 rfl ⟨(0 : Int32), rfl, h, hWS19, (wkExt.tr (wkExt.tr hE hXS12) hXS19)⟩
          · rw [if_pos c26] at h
            refine wk_iconst C (v := 1) dX5_isFulfilled_55 (by decide) ?_
            refine wk_goto C (tgt := 60) dX5_isFulfilled_56 (by decide) ?_
            exact E _ _ _ _ _ _ (Nat.le_refl 0) (Nat.le_refl 0) dX5_isFulfilled_60 rfl ⟨(1 : Int32), rfl, h, hWS19, (wkExt.tr (wkExt.tr hE hXS12) hXS19)⟩
set_option maxHeartbeats 4000000 in
set_option maxRecDepth 100000 in
theorem tX5_isFulfilled {l : Launch} {g : wkG} {F : Nat}  {S : wPS} {l0A : Nat} {Φ : (Int32 → wPS → Prop)} (hW : wkWF S) (hl0A : wkIs S l0A 5) (h : rX5_isFulfilled F l0A S Φ) : wkMet l g yX5_isFulfilled wvX5_isFulfilled 3 0 0 [.ref l0A] S (fun v' S'' => ∃ v : Int32, v' = some (.int v) ∧ Φ v S'' ∧ wkWF S'' ∧ wkExt S S'') := by
  refine wkMet_of (ret := (some .boolean)) (by decide) rfl (Nat.le_of_ble_eq_true rfl) (fun X hg C hR E => ?_)
  subst hg
  have hE : wkExt S S := wkExt.rf
  have hd : 3 ≤ 3 := Nat.le_refl _
  show wkGo l X 2 0 0 0 S [some (.ref l0A), none] []
  have ih := tX5_isFulfilled_go (F := F) C hR hd E F
  have h : rX5_isFulfilled_s F (rX5_isFulfilled_go F F) l0A S Φ := h
  unfold rX5_isFulfilled_s at h
  refine wk_iconst C (v := 0) dX5_isFulfilled_0 (by decide) ?_
  refine wk_istore_n C (lv' := [some (.ref l0A), some (.int (0 : Int32))]) dX5_isFulfilled_1 rfl (by decide) rfl ?_
  exact wk_forget (lv' := [some (.ref l0A), some (.int (0 : Int32))]) (wkLs.le ⟨rfl, rfl, trivial⟩) (ih _ _ _ hW hE hl0A h)
