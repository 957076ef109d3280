def wvX8_divideFirst : List Cond := .code yX8_divideFirst cX8_divideFirst 5 none :: (([.fieldLink RX8 23 "Witnessworks$Numbers" "chain" "[[J", .methodLink RX8 192 yX8_makeFree, .static yX8_makeFree, .initialized RX8, .fieldLink RX8 33 "Witnessworks$Numbers" "often" "[J", .fieldLink RX8 26 "Witnessworks$Numbers" "degrees" "[I", .methodLink RX8 200 yX8_divide, .instanceMethod yX8_divide, .selects RX8 yX8_divide yX8_divide, .methodLink RX8 182 yX8_degreeOf, .static yX8_degreeOf, .methodLink RX8 210 Lib.Math.max.name, .static Lib.Math.max.name, .initialized "java/lang/Math", .code Lib.Math.max.name Lib.Math.max.code 2 (some .int), .constantLong RX8 213 (-1)] : List Cond) ++ ((wsX80) ++ (wvX8_makeFree ++ (wvX8_divide ++ (wvX8_degreeOf)))))
theorem huX8_divideFirst_8 : ∀ w ∈ u_ws RX8 TX8 9, w ∈ wvX8_divideFirst := fun w h => List.mem_cons_of_mem _ (List.mem_append_right _ (List.mem_append_left _ h))
theorem hbX8_divideFirst_X8_makeFree : ∀ w ∈ wvX8_makeFree, w ∈ wvX8_divideFirst := fun w h => List.mem_cons_of_mem _ (List.mem_append_right _ (List.mem_append_right _ (List.mem_append_left _ h)))
theorem hbX8_divideFirst_X8_divide : ∀ w ∈ wvX8_divide, w ∈ wvX8_divideFirst := fun w h => List.mem_cons_of_mem _ (List.mem_append_right _ (List.mem_append_right _ (List.mem_append_right _ (List.mem_append_left _ h))))
theorem hbX8_divideFirst_X8_degreeOf : ∀ w ∈ wvX8_degreeOf, w ∈ wvX8_divideFirst := fun w h => List.mem_cons_of_mem _ (List.mem_append_right _ (List.mem_append_right _ (List.mem_append_right _ (List.mem_append_right _ h))))
theorem gdX8_divideFirst : ∀ w ∈ wvX8_divideFirst, wkGd w := wkGdC rfl (wkGdA (wkGdL (by decide +kernel)) (wkGdA gdX8 (wkGdA gdX8_makeFree (wkGdA gdX8_divide gdX8_degreeOf))))
def rX8_divideFirst_b0 (F : Nat) (rec : Nat → Nat → Int64 → Int32 → wPS → (Unit → wPS → Prop) → Prop) (l0A : Nat) (l2J : Int64) (l4I : Int32) (S : wPS) (Φ : (Unit → wPS → Prop)) : Prop :=
  if (4 : Int32) ≤ l4I then (¬ ((0 : Int32) < 0 ∨ S.len (wkAd (gNumbers_chain S l0A)) ≤ ((0 : Int32)).toNatClampNeg) ∧ rX8_makeFree F (wkAd (S.rA (wkAd (gNumbers_chain S l0A)) ((0 : Int32)).toNatClampNeg)) S fun v4 S5 => Φ () S5) else (¬ ((0 : Int32) < 0 ∨ S.len (wkAd (gNumbers_chain S l0A)) ≤ ((0 : Int32)).toNatClampNeg) ∧ ¬ (l4I < 0 ∨ S.len (wkAd (gNumbers_often S l0A)) ≤ (l4I).toNatClampNeg) ∧ ¬ (l4I < 0 ∨ S.len (wkAd (S.rA (wkAd (gNumbers_chain S l0A)) ((0 : Int32)).toNatClampNeg)) ≤ (l4I).toNatClampNeg) ∧ wkLt (wuJ S (wkAd (S.rA (wkAd (gNumbers_chain S l0A)) ((0 : Int32)).toNatClampNeg)) l4I (l2J * (S.rJ (wkAd (gNumbers_often S l0A)) (l4I).toNatClampNeg))) fun S13 => wkLt (l4I + (1 : Int32)) fun x14 => rec 0 l0A l2J x14 S13 Φ)
def rX8_divideFirst_go (F : Nat) : Nat → Nat → Nat → Int64 → Int32 → wPS → (Unit → wPS → Prop) → Prop
  | 0, _, _, _, _, _, _ => False
  | k' + 1, lab, l0A, l2J, l4I, S, Φ => if lab = 0 then rX8_divideFirst_b0 F (rX8_divideFirst_go F k') l0A l2J l4I S Φ else False
def rX8_divideFirst_s (F : Nat) (rec : Nat → Nat → Int64 → Int32 → wPS → (Unit → wPS → Prop) → Prop) (l0A : Nat) (l1I : Int32) (S : wPS) (Φ : (Unit → wPS → Prop)) : Prop :=
  ¬ ((0 : Int32) < 0 ∨ S.len (wkAd (gNumbers_chain S l0A)) ≤ ((0 : Int32)).toNatClampNeg) ∧ ¬ (l1I < 0 ∨ S.len (wkAd (gNumbers_chain S l0A)) ≤ (l1I).toNatClampNeg) ∧ ¬ ((0 : Int32) < 0 ∨ S.len (wkAd (gNumbers_degrees S l0A)) ≤ ((0 : Int32)).toNatClampNeg) ∧ ¬ (l1I < 0 ∨ S.len (wkAd (gNumbers_degrees S l0A)) ≤ (l1I).toNatClampNeg) ∧ rX8_divide F l0A (wkAd (S.rA (wkAd (gNumbers_chain S l0A)) ((0 : Int32)).toNatClampNeg)) (wkAd (S.rA (wkAd (gNumbers_chain S l0A)) (l1I).toNatClampNeg)) (S.rI (wkAd (gNumbers_degrees S l0A)) ((0 : Int32)).toNatClampNeg) (S.rI (wkAd (gNumbers_degrees S l0A)) (l1I).toNatClampNeg) S fun v21 S22 => rX8_degreeOf F (wkAd (gNumbers_often S22 l0A)) S22 fun v26 S27 => ¬ ((0 : Int32) < 0 ∨ S27.len (wkAd (gNumbers_degrees S22 l0A)) ≤ ((0 : Int32)).toNatClampNeg) ∧ wkLt (wuI S27 (wkAd (gNumbers_degrees S22 l0A)) (0 : Int32) (if (0 : Int32) < v26 then v26 else (0 : Int32))) fun S32 => ¬ ((0 : Int32) < 0 ∨ S32.len (wkAd (gNumbers_degrees S32 l0A)) ≤ ((0 : Int32)).toNatClampNeg) ∧ ¬ ((S32.rI (wkAd (gNumbers_degrees S32 l0A)) ((0 : Int32)).toNatClampNeg) < 0 ∨ S32.len (wkAd (gNumbers_often S32 l0A)) ≤ ((S32.rI (wkAd (gNumbers_degrees S32 l0A)) ((0 : Int32)).toNatClampNeg)).toNatClampNeg) ∧ if 0 ≤ (lg_cmp (S32.rJ (wkAd (gNumbers_often S32 l0A)) ((S32.rI (wkAd (gNumbers_degrees S32 l0A)) ((0 : Int32)).toNatClampNeg)).toNatClampNeg) (0 : Int64)) then (rec 0 l0A (1 : Int64) (0 : Int32) S32 Φ) else (rec 0 l0A (-1 : Int64) (0 : Int32) S32 Φ)
def rX8_divideFirst (F : Nat) (l0A : Nat) (l1I : Int32) (S : wPS) (Φ : (Unit → wPS → Prop)) : Prop := rX8_divideFirst_s F (rX8_divideFirst_go F F) l0A l1I S Φ
set_option maxHeartbeats 4000000 in
set_option maxRecDepth 100000 in
theorem tX8_divideFirst_go {l : Launch} {X : wkX} {d F : Nat} {S0 : wPS} {Φ : (Unit → wPS → Prop)} (C : wkC X cX8_divideFirst RX8 5 wvX8_divideFirst) (hR : wkRm X d 0 0) (hd : 3 ≤ d) (E : wkEnd l X cX8_divideFirst 5 none 0 0 (fun v' S'' => ∃ v : Unit, v' = none ∧ Φ v S'' ∧ wkWF S'' ∧ wkExt S0 S'')) : ∀ k' : Nat, (∀ (l0A : Nat) (l2J : Int64) (l4I : Int32) (S : wPS), wkWF S → wkExt S0 S → wkIs S l0A 8 → rX8_divideFirst_go F k' 0 l0A l2J l4I S Φ → wkGo l X 5 0 0 72 S [some (.ref l0A), none, some (.long l2J), none, some (.int l4I)] []) := by
  intro k'
  induction k' with
  | zero => exact fun l0A l2J l4I S hW hE hl0A h => h.elim
  | succ k' ih =>
    · intro l0A l2J l4I S hW hE hl0A h
      have h : rX8_divideFirst_b0 F (rX8_divideFirst_go F k') l0A l2J l4I S Φ := by
        rw [rX8_divideFirst_go, if_pos (rfl : (0 : Nat) = 0)] at h
        exact h
      unfold rX8_divideFirst_b0 at h
      refine wk_iload C dX8_divideFirst_72 rfl ?_
      refine wk_iconst C (v := 4) dX8_divideFirst_74 (by decide) ?_
      refine wk_icmp_ge C (tgt := 102) dX8_divideFirst_75 (by decide) (fun c1 => ?_) (fun c1 => ?_)
      · rw [if_pos c1] at h
        refine wk_aload_n C dX8_divideFirst_102 rfl rfl ?_
        refine wk_get C huX8_divideFirst_8 hl0A.1 (fun cy => wAt_8 cy _ hl0A.2) rfl 4 (by decide) (List.mem_of_getElem? (i := 1) rfl) rfl (congrArg some (congrArg va_rf (wf_Numbers_chain hW hl0A).1)) dX8_divideFirst_103 ?_
        refine wk_iconst C (v := 0) dX8_divideFirst_106 (by decide) ?_
        obtain ⟨i2, h⟩ := h
        have w3 := wf_R_J hW (wf_Numbers_chain hW hl0A).2 (Nat.not_le.mp fun q => i2 (Or.inr q))
        refine wk_aald_J C (wf_Numbers_chain hW hl0A).2.1 (wf_Numbers_chain hW hl0A).2.2 i2 w3.1 dX8_divideFirst_107 ?_
        refine wk_callW C hR (As := [.ref (wkAd (S.rA (wkAd (gNumbers_chain S l0A)) ((0 : Int32)).toNatClampNeg))]) (cnt := 1) (tX8_makeFree (l := l) hW w3.2 h) rfl (wkGoodW (List.mem_of_getElem? (i := 2) rfl) (List.mem_of_getElem? (i := 3) rfl) (List.mem_of_getElem? (i := 4) rfl) hbX8_divideFirst_X8_makeFree gdX8_makeFree) (Nat.le_trans (by decide : 2 + 1 ≤ 3) hd) (by decide) ⟨by decide, by decide, by decide +kernel⟩ rfl rfl (Nat.le_of_ble_eq_true rfl) (Nat.le_refl 0) (Nat.le_refl 0) dX8_divideFirst_108 (fun v' S5 hp => ?_)
        obtain ⟨v4, rfl, h, hWS5, hXS5⟩ := hp
        exact E _ _ _ _ _ (Nat.le_refl 0) (Nat.le_refl 0) dX8_divideFirst_111 ⟨(), rfl, h, hWS5, (wkExt.tr hE hXS5)⟩
      · rw [if_neg c1] at h
        refine wk_aload_n C dX8_divideFirst_78 rfl rfl ?_
        refine wk_get C huX8_divideFirst_8 hl0A.1 (fun cy => wAt_8 cy _ hl0A.2) rfl 4 (by decide) (List.mem_of_getElem? (i := 1) rfl) rfl (congrArg some (congrArg va_rf (wf_Numbers_chain hW hl0A).1)) dX8_divideFirst_79 ?_
        refine wk_iconst C (v := 0) dX8_divideFirst_82 (by decide) ?_
        obtain ⟨i9, h⟩ := h
        have w10 := wf_R_J hW (wf_Numbers_chain hW hl0A).2 (Nat.not_le.mp fun q => i9 (Or.inr q))
        refine wk_aald_J C (wf_Numbers_chain hW hl0A).2.1 (wf_Numbers_chain hW hl0A).2.2 i9 w10.1 dX8_divideFirst_83 ?_
        refine wk_iload C dX8_divideFirst_84 rfl ?_
        refine wk_lload_n C dX8_divideFirst_86 rfl rfl ?_
        refine wk_aload_n C dX8_divideFirst_87 rfl rfl ?_
        refine wk_get C huX8_divideFirst_8 hl0A.1 (fun cy => wAt_8 cy _ hl0A.2) rfl 7 (by decide) (List.mem_of_getElem? (i := 5) rfl) rfl (congrArg some (congrArg va_rf (wf_Numbers_often hW hl0A).1)) dX8_divideFirst_88 ?_
        refine wk_iload C dX8_divideFirst_91 rfl ?_
        obtain ⟨i11, h⟩ := h
        refine wk_lald C (wf_Numbers_often hW hl0A).2.1 (wf_Numbers_often hW hl0A).2.2 i11 rfl dX8_divideFirst_93 ?_
        refine wk_lmul C dX8_divideFirst_94 rfl ?_
        obtain ⟨i12, h⟩ := h
        obtain ⟨S13, eS13, h⟩ := wkLt_some h
        refine wk_last C w10.2.1 w10.2.2 i12 eS13.symm dX8_divideFirst_95 ?_
        have hWS13 : wkWF S13 := by rw [eS13]; exact hW
        have hXS13 : wkExt S S13 := by rw [eS13]; exact wkExt.rf
        obtain ⟨x14, ex14, h⟩ := wkLt_some h
        refine wk_iinc C (lv' := [some (.ref l0A), none, some (.long l2J), none, some (.int x14)]) dX8_divideFirst_96 rfl (by rw [ex14]; rfl) (by decide) rfl ?_
        refine wk_goto C (tgt := 72) dX8_divideFirst_99 (by decide) ?_
        exact wk_forget (lv' := [some (.ref l0A), none, some (.long l2J), none, some (.int x14)]) (wkLs.le ⟨rfl, rfl, rfl, trivial⟩) (ih _ _ _ _ hWS13 (wkExt.tr hE hXS13) (hXS13 _ _ hl0A) h)
set_option maxHeartbeats 4000000 in
set_option maxRecDepth 100000 in
theorem tX8_divideFirst {l : Launch} {g : wkG} {F : Nat}  {S : wPS} {l0A : Nat} {l1I : Int32} {Φ : (Unit → wPS → Prop)} (hW : wkWF S) (hl0A : wkIs S l0A 8) (h : rX8_divideFirst F l0A l1I S Φ) : wkMet l g yX8_divideFirst wvX8_divideFirst 3 0 0 [.ref l0A, .int l1I] S (fun v' S'' => ∃ v : Unit, v' = none ∧ Φ v S'' ∧ wkWF S'' ∧ wkExt S S'') := by
  refine wkMet_of (ret := none) (by decide) rfl (Nat.le_of_ble_eq_true rfl) (fun X hg C hR E => ?_)
  subst hg
  have hE : wkExt S S := wkExt.rf
  have hd : 3 ≤ 3 := Nat.le_refl _
  show wkGo l X 5 0 0 0 S [some (.ref l0A), some (.int l1I), none, none, none] []
  have ih := tX8_divideFirst_go (F := F) C hR hd E F
  have h : rX8_divideFirst_s F (rX8_divideFirst_go F F) l0A l1I S Φ := h
  unfold rX8_divideFirst_s at h
  refine wk_aload_n C dX8_divideFirst_0 rfl rfl ?_
  refine wk_aload_n C dX8_divideFirst_1 rfl rfl ?_
  refine wk_get C huX8_divideFirst_8 hl0A.1 (fun cy => wAt_8 cy _ hl0A.2) rfl 4 (by decide) (List.mem_of_getElem? (i := 1) rfl) rfl (congrArg some (congrArg va_rf (wf_Numbers_chain hW hl0A).1)) dX8_divideFirst_2 ?_
  refine wk_iconst C (v := 0) dX8_divideFirst_5 (by decide) ?_
  obtain ⟨i15, h⟩ := h
  have w16 := wf_R_J hW (wf_Numbers_chain hW hl0A).2 (Nat.not_le.mp fun q => i15 (Or.inr q))
  refine wk_aald_J C (wf_Numbers_chain hW hl0A).2.1 (wf_Numbers_chain hW hl0A).2.2 i15 w16.1 dX8_divideFirst_6 ?_
  refine wk_aload_n C dX8_divideFirst_7 rfl rfl ?_
  refine wk_get C huX8_divideFirst_8 hl0A.1 (fun cy => wAt_8 cy _ hl0A.2) rfl 4 (by decide) (List.mem_of_getElem? (i := 1) rfl) rfl (congrArg some (congrArg va_rf (wf_Numbers_chain hW hl0A).1)) dX8_divideFirst_8 ?_
  refine wk_iload_n C dX8_divideFirst_11 rfl rfl ?_
  obtain ⟨i17, h⟩ := h
  have w18 := wf_R_J hW (wf_Numbers_chain hW hl0A).2 (Nat.not_le.mp fun q => i17 (Or.inr q))
  refine wk_aald_J C (wf_Numbers_chain hW hl0A).2.1 (wf_Numbers_chain hW hl0A).2.2 i17 w18.1 dX8_divideFirst_12 ?_
  refine wk_aload_n C dX8_divideFirst_13 rfl rfl ?_
  refine wk_get C huX8_divideFirst_8 hl0A.1 (fun cy => wAt_8 cy _ hl0A.2) rfl 5 (by decide) (List.mem_of_getElem? (i := 6) rfl) rfl (congrArg some (congrArg va_rf (wf_Numbers_degrees hW hl0A).1)) dX8_divideFirst_14 ?_
  refine wk_iconst C (v := 0) dX8_divideFirst_17 (by decide) ?_
  obtain ⟨i19, h⟩ := h
  refine wk_iald C (wf_Numbers_degrees hW hl0A).2.1 (wf_Numbers_degrees hW hl0A).2.2 i19 rfl dX8_divideFirst_18 ?_
  refine wk_aload_n C dX8_divideFirst_19 rfl rfl ?_
  refine wk_get C huX8_divideFirst_8 hl0A.1 (fun cy => wAt_8 cy _ hl0A.2) rfl 5 (by decide) (List.mem_of_getElem? (i := 6) rfl) rfl (congrArg some (congrArg va_rf (wf_Numbers_degrees hW hl0A).1)) dX8_divideFirst_20 ?_
  refine wk_iload_n C dX8_divideFirst_23 rfl rfl ?_
  obtain ⟨i20, h⟩ := h
  refine wk_iald C (wf_Numbers_degrees hW hl0A).2.1 (wf_Numbers_degrees hW hl0A).2.2 i20 rfl dX8_divideFirst_24 ?_
  refine wk_callV C hR (As := [.ref (wkAd (S.rA (wkAd (gNumbers_chain S l0A)) ((0 : Int32)).toNatClampNeg)), .ref (wkAd (S.rA (wkAd (gNumbers_chain S l0A)) (l1I).toNatClampNeg)), .int (S.rI (wkAd (gNumbers_degrees S l0A)) ((0 : Int32)).toNatClampNeg), .int (S.rI (wkAd (gNumbers_degrees S l0A)) (l1I).toNatClampNeg)]) (cnt := 4) (tX8_divide (l := l) hW hl0A w16.2 w18.2 h) rfl (wkGoodV (List.mem_of_getElem? (i := 7) rfl) (List.mem_of_getElem? (i := 8) rfl) (List.mem_of_getElem? (i := 9) rfl) (List.mem_of_getElem? (i := 4) rfl) hbX8_divideFirst_X8_divide gdX8_divide) (Nat.le_trans (by decide : 1 + 1 ≤ 3) hd) (by decide) hl0A.1 (fun cy => wAt_8 cy _ hl0A.2) rfl ⟨by decide, by decide, by decide +kernel⟩ rfl rfl (Nat.le_of_ble_eq_true rfl) (Nat.le_refl 0) (Nat.le_refl 0) dX8_divideFirst_25 (fun v' S22 hp => ?_)
  obtain ⟨v21, rfl, h, hWS22, hXS22⟩ := hp
  refine wk_aload_n C dX8_divideFirst_28 rfl rfl ?_
  refine wk_get C huX8_divideFirst_8 (hXS22 _ _ hl0A).1 (fun cy => wAt_8 cy _ (hXS22 _ _ hl0A).2) rfl 5 (by decide) (List.mem_of_getElem? (i := 6) rfl) rfl (congrArg some (congrArg va_rf (wf_Numbers_degrees hWS22 (hXS22 _ _ hl0A)).1)) dX8_divideFirst_29 ?_
  refine wk_iconst C (v := 0) dX8_divideFirst_32 (by decide) ?_
  refine wk_iconst C (v := 0) dX8_divideFirst_33 (by decide) ?_
  refine wk_aload_n C dX8_divideFirst_34 rfl rfl ?_
  refine wk_get C huX8_divideFirst_8 (hXS22 _ _ hl0A).1 (fun cy => wAt_8 cy _ (hXS22 _ _ hl0A).2) rfl 7 (by decide) (List.mem_of_getElem? (i := 5) rfl) rfl (congrArg some (congrArg va_rf (wf_Numbers_often hWS22 (hXS22 _ _ hl0A)).1)) dX8_divideFirst_35 ?_
  refine wk_callW C hR (As := [.ref (wkAd (gNumbers_often S22 l0A))]) (cnt := 1) (tX8_degreeOf (l := l) hWS22 (wf_Numbers_often hWS22 (hXS22 _ _ hl0A)).2 h) rfl (wkGoodW (List.mem_of_getElem? (i := 10) rfl) (List.mem_of_getElem? (i := 11) rfl) (List.mem_of_getElem? (i := 4) rfl) hbX8_divideFirst_X8_degreeOf gdX8_degreeOf) (Nat.le_trans (by decide : 0 + 1 ≤ 3) hd) (by decide) ⟨by decide, by decide, by decide +kernel⟩ rfl rfl (Nat.le_of_ble_eq_true rfl) (Nat.le_refl 0) (Nat.le_refl 0) dX8_divideFirst_38 (fun v' S27 hp => ?_)
  obtain ⟨v26, rfl, h, hWS27, hXS27⟩ := hp
  refine wk_mmax C hR (List.mem_of_getElem? (i := 12) rfl) (List.mem_of_getElem? (i := 13) rfl) (List.mem_of_getElem? (i := 14) rfl) (List.mem_of_getElem? (i := 15) rfl) (Nat.le_trans (by decide) hd) (Nat.le_refl 0) (Nat.le_refl 0) (Nat.le_of_ble_eq_true rfl) rfl dX8_divideFirst_41 ?_
  obtain ⟨i31, h⟩ := h
  obtain ⟨S32, eS32, h⟩ := wkLt_some h
  refine wk_iast C (hXS27 _ _ (wf_Numbers_degrees hWS22 (hXS22 _ _ hl0A)).2).1 (hXS27 _ _ (wf_Numbers_degrees hWS22 (hXS22 _ _ hl0A)).2).2 i31 eS32.symm dX8_divideFirst_44 ?_
  have hWS32 : wkWF S32 := by rw [eS32]; exact hWS27
  have hXS32 : wkExt S27 S32 := by rw [eS32]; exact wkExt.rf
  refine wk_aload_n C dX8_divideFirst_45 rfl rfl ?_
  refine wk_get C huX8_divideFirst_8 (hXS32 _ _ (hXS27 _ _ (hXS22 _ _ hl0A))).1 (fun cy => wAt_8 cy _ (hXS32 _ _ (hXS27 _ _ (hXS22 _ _ hl0A))).2) rfl 7 (by decide) (List.mem_of_getElem? (i := 5) rfl) rfl (congrArg some (congrArg va_rf (wf_Numbers_often hWS32 (hXS32 _ _ (hXS27 _ _ (hXS22 _ _ hl0A)))).1)) dX8_divideFirst_46 ?_
  refine wk_aload_n C dX8_divideFirst_49 rfl rfl ?_
  refine wk_get C huX8_divideFirst_8 (hXS32 _ _ (hXS27 _ _ (hXS22 _ _ hl0A))).1 (fun cy => wAt_8 cy _ (hXS32 _ _ (hXS27 _ _ (hXS22 _ _ hl0A))).2) rfl 5 (by decide) (List.mem_of_getElem? (i := 6) rfl) rfl (congrArg some (congrArg va_rf (wf_Numbers_degrees hWS32 (hXS32 _ _ (hXS27 _ _ (hXS22 _ _ hl0A)))).1)) dX8_divideFirst_50 ?_
  refine wk_iconst C (v := 0) dX8_divideFirst_53 (by decide) ?_
  obtain ⟨i33, h⟩ := h
  refine wk_iald C (wf_Numbers_degrees hWS32 (hXS32 _ _ (hXS27 _ _ (hXS22 _ _ hl0A)))).2.1 (wf_Numbers_degrees hWS32 (hXS32 _ _ (hXS27 _ _ (hXS22 _ _ hl0A)))).2.2 i33 rfl dX8_divideFirst_54 ?_
  obtain ⟨i34, h⟩ := h
  refine wk_lald C (wf_Numbers_often hWS32 (hXS32 _ _ (hXS27 _ _ (hXS22 _ _ hl0A)))).2.1 (wf_Numbers_often hWS32 (hXS32 _ _ (hXS27 _ _ (hXS22 _ _ hl0A)))).2.2 i34 rfl dX8_divideFirst_55 ?_
  refine wk_lconst C (v := 0) dX8_divideFirst_56 (by decide) ?_
  refine wk_lcmp C dX8_divideFirst_57 rfl ?_
  refine wk_if_ge C (tgt := 67) dX8_divideFirst_58 (by decide) (fun c35 => ?_) (fun c35 => ?_)
  · rw [if_pos c35] at h
    refine wk_lconst C (v := 1) dX8_divideFirst_67 (by decide) ?_
    refine wk_lstore_n C (lv' := [some (.ref l0A), some (.int l1I), some (.long (1 : Int64)), none, none]) dX8_divideFirst_68 rfl (by decide) rfl ?_
    refine wk_iconst C (v := 0) dX8_divideFirst_69 (by decide) ?_
    refine wk_istore C (lv' := [some (.ref l0A), some (.int l1I), some (.long (1 : Int64)), none, some (.int (0 : Int32))]) dX8_divideFirst_70 (by decide) rfl ?_
    exact wk_forget (lv' := [some (.ref l0A), none, some (.long (1 : Int64)), none, some (.int (0 : Int32))]) (wkLs.le ⟨rfl, rfl, rfl, trivial⟩) (ih _ _ _ _ hWS32 (wkExt.tr (wkExt.tr (wkExt.tr hE hXS22) hXS27) hXS32) (hXS32 _ _ (hXS27 _ _ (hXS22 _ _ hl0A))) h)
  · rw [if_neg c35] at h
    refine wk_ldc2 C (v := (-1)) (List.mem_of_getElem? (i := 16) rfl) dX8_divideFirst_61 ?_
    refine wk_goto C (tgt := 68) dX8_divideFirst_64 (by decide) ?_
    refine wk_lstore_n C (lv' := [some (.ref l0A), some (.int l1I), some (.long (-1 : Int64)), none, none]) dX8_divideFirst_68 rfl (by decide) rfl ?_
    refine wk_iconst C (v := 0) dX8_divideFirst_69 (by decide) ?_
    refine wk_istore C (lv' := [some (.ref l0A), some (.int l1I), some (.long (-1 : Int64)), none, some (.int (0 : Int32))]) dX8_divideFirst_70 (by decide) rfl ?_
    exact wk_forget (lv' := [some (.ref l0A), none, some (.long (-1 : Int64)), none, some (.int (0 : Int32))]) (wkLs.le ⟨rfl, rfl, rfl, trivial⟩) (ih _ _ _ _ hWS32 (wkExt.tr (wkExt.tr (wkExt.tr hE hXS22) hXS27) hXS32) (hXS32 _ _ (hXS27 _ _ (hXS22 _ _ hl0A))) h)
def wvX10_writePoints : List Cond := .code yX10_writePoints cX10_writePoints 6 none :: (([.fieldLink RX10 71 "Witnessworks$Words" "size" "I", .methodLink RX10 108 yX10_unusedPoint, .instanceMethod yX10_unusedPoint, .selects RX10 yX10_unusedPoint yX10_unusedPoint, .initialized RX10] : List Cond) ++ ((wsX100) ++ (wvX10_unusedPoint)))
theorem huX10_writePoints_10 : ∀ w ∈ u_ws RX10 TX10 12, w ∈ wvX10_writePoints := fun w h => List.mem_cons_of_mem _ (List.mem_append_right _ (List.mem_append_left _ h))
theorem hbX10_writePoints_X10_unusedPoint : ∀ w ∈ wvX10_unusedPoint, w ∈ wvX10_writePoints := fun w h => List.mem_cons_of_mem _ (List.mem_append_right _ (List.mem_append_right _ h))
theorem gdX10_writePoints : ∀ w ∈ wvX10_writePoints, wkGd w := wkGdC rfl (wkGdA (wkGdL (by decide +kernel)) (wkGdA gdX10 gdX10_unusedPoint))
def rX10_writePoints_b0 (F : Nat) (rec : Nat → Nat → Nat → Int32 → Int32 → Int32 → wPS → (Unit → wPS → Prop) → Prop) (l0A : Nat) (l2A : Nat) (l3I : Int32) (l4I : Int32) (S : wPS) (Φ : (Unit → wPS → Prop)) : Prop :=
  if l4I < 0 then (rec 1 l0A l2A 0 (0 : Int32) (0 : Int32) S Φ) else (¬ ((gWords_size S l0A) - l4I) = 0 ∧ ¬ (l4I < 0 ∨ S.len l2A ≤ (l4I).toNatClampNeg) ∧ wkLt (wuI S l2A l4I (l3I - l3I / ((gWords_size S l0A) - l4I) * ((gWords_size S l0A) - l4I))) fun S4 => ¬ ((gWords_size S4 l0A) - l4I) = 0 ∧ wkLt ((l3I / ((gWords_size S4 l0A) - l4I))) fun x6 => wkLt (l4I + (-1 : Int32)) fun x7 => rec 0 l0A l2A x6 x7 0 S4 Φ)
def rX10_writePoints_b1 (F : Nat) (rec : Nat → Nat → Nat → Int32 → Int32 → Int32 → wPS → (Unit → wPS → Prop) → Prop) (l0A : Nat) (l2A : Nat) (l4I : Int32) (l5I : Int32) (S : wPS) (Φ : (Unit → wPS → Prop)) : Prop :=
  if (gWords_size S l0A) ≤ l5I then (Φ () S) else (¬ (l5I < 0 ∨ S.len l2A ≤ (l5I).toNatClampNeg) ∧ rX10_unusedPoint F l0A l4I (S.rI l2A (l5I).toNatClampNeg) S fun v10 S11 => ¬ (l5I < 0 ∨ S11.len l2A ≤ (l5I).toNatClampNeg) ∧ wkLt (wuI S11 l2A l5I v10) fun S16 => ¬ (l5I < 0 ∨ S16.len l2A ≤ (l5I).toNatClampNeg) ∧ wkLt ((l4I ||| ((1 : Int32) <<< ((S16.rI l2A (l5I).toNatClampNeg) &&& 31)))) fun x18 => wkLt (l5I + (1 : Int32)) fun x19 => rec 1 l0A l2A 0 x18 x19 S16 Φ)
def rX10_writePoints_go (F : Nat) : Nat → Nat → Nat → Nat → Int32 → Int32 → Int32 → wPS → (Unit → wPS → Prop) → Prop
  | 0, _, _, _, _, _, _, _, _ => False
  | k' + 1, lab, l0A, l2A, l3I, l4I, l5I, S, Φ => if lab = 0 then rX10_writePoints_b0 F (rX10_writePoints_go F k') l0A l2A l3I l4I S Φ else if lab = 1 then rX10_writePoints_b1 F (rX10_writePoints_go F k') l0A l2A l4I l5I S Φ else False
def rX10_writePoints_s (F : Nat) (rec : Nat → Nat → Nat → Int32 → Int32 → Int32 → wPS → (Unit → wPS → Prop) → Prop) (l0A : Nat) (l1I : Int32) (l2A : Nat) (S : wPS) (Φ : (Unit → wPS → Prop)) : Prop :=
  wkLt (((gWords_size S l0A) - (1 : Int32))) fun x20 => rec 0 l0A l2A l1I x20 0 S Φ
def rX10_writePoints (F : Nat) (l0A : Nat) (l1I : Int32) (l2A : Nat) (S : wPS) (Φ : (Unit → wPS → Prop)) : Prop := rX10_writePoints_s F (rX10_writePoints_go F F) l0A l1I l2A S Φ
set_option maxHeartbeats 4000000 in
set_option maxRecDepth 100000 in
theorem tX10_writePoints_go {l : Launch} {X : wkX} {d F : Nat} {S0 : wPS} {Φ : (Unit → wPS → Prop)} (C : wkC X cX10_writePoints RX10 6 wvX10_writePoints) (hR : wkRm X d 0 0) (hd : 2 ≤ d) (E : wkEnd l X cX10_writePoints 6 none 0 0 (fun v' S'' => ∃ v : Unit, v' = none ∧ Φ v S'' ∧ wkWF S'' ∧ wkExt S0 S'')) : ∀ k' : Nat, (∀ (l0A : Nat) (l2A : Nat) (l3I : Int32) (l4I : Int32) (S : wPS), wkWF S → wkExt S0 S → wkIs S l0A 10 → wkIs S l2A 13 → rX10_writePoints_go F k' 0 l0A l2A l3I l4I 0 S Φ → wkGo l X 6 0 0 10 S [some (.ref l0A), none, some (.ref l2A), some (.int l3I), some (.int l4I), none] []) ∧ (∀ (l0A : Nat) (l2A : Nat) (l4I : Int32) (l5I : Int32) (S : wPS), wkWF S → wkExt S0 S → wkIs S l0A 10 → wkIs S l2A 13 → rX10_writePoints_go F k' 1 l0A l2A 0 l4I l5I S Φ → wkGo l X 6 0 0 50 S [some (.ref l0A), none, some (.ref l2A), none, some (.int l4I), some (.int l5I)] []) := by
  intro k'
  induction k' with
  | zero => exact ⟨fun l0A l2A l3I l4I S hW hE hl0A hl2A h => h.elim, fun l0A l2A l4I l5I S hW hE hl0A hl2A h => h.elim⟩
  | succ k' ih =>
    refine ⟨?_, ?_⟩
    · intro l0A l2A l3I l4I S hW hE hl0A hl2A h
      have h : rX10_writePoints_b0 F (rX10_writePoints_go F k') l0A l2A l3I l4I S Φ := by
        rw [rX10_writePoints_go, if_pos (rfl : (0 : Nat) = 0)] at h
        exact h
      unfold rX10_writePoints_b0 at h
      refine wk_iload C dX10_writePoints_10 rfl ?_
      refine wk_if_lt C (tgt := 44) dX10_writePoints_12 (by decide) (fun c1 => ?_) (fun c1 => ?_)
      · rw [if_pos c1] at h
        refine wk_iconst C (v := 0) dX10_writePoints_44 (by decide) ?_
        refine wk_istore C (lv' := [some (.ref l0A), none, some (.ref l2A), some (.int l3I), some (.int (0 : Int32)), none]) dX10_writePoints_45 (by decide) rfl ?_
        refine wk_iconst C (v := 0) dX10_writePoints_47 (by decide) ?_
        refine wk_istore C (lv' := [some (.ref l0A), none, some (.ref l2A), some (.int l3I), some (.int (0 : Int32)), some (.int (0 : Int32))]) dX10_writePoints_48 (by decide) rfl ?_
        exact wk_forget (lv' := [some (.ref l0A), none, some (.ref l2A), none, some (.int (0 : Int32)), some (.int (0 : Int32))]) (wkLs.le ⟨rfl, rfl, rfl, rfl, trivial⟩) (ih.2 _ _ _ _ _ hW hE hl0A hl2A h)
      · rw [if_neg c1] at h
        refine wk_aload_n C dX10_writePoints_15 rfl rfl ?_
        refine wk_iload C dX10_writePoints_16 rfl ?_
        refine wk_iload_n C dX10_writePoints_18 rfl rfl ?_
        refine wk_aload_n C dX10_writePoints_19 rfl rfl ?_
        refine wk_get C (v := .int (gWords_size S l0A)) huX10_writePoints_10 hl0A.1 (fun cy => wAt_10 cy _ hl0A.2) rfl 10 (by decide) (List.mem_of_getElem? (i := 1) rfl) rfl rfl dX10_writePoints_20 ?_
        refine wk_iload C dX10_writePoints_23 rfl ?_
        refine wk_isub C dX10_writePoints_25 rfl ?_
        obtain ⟨z2, h⟩ := h
        refine wk_irem C dX10_writePoints_26 z2 rfl ?_
        obtain ⟨i3, h⟩ := h
        obtain ⟨S4, eS4, h⟩ := wkLt_some h
        refine wk_iast C hl2A.1 hl2A.2 i3 eS4.symm dX10_writePoints_27 ?_
        have hWS4 : wkWF S4 := by rw [eS4]; exact hW
        have hXS4 : wkExt S S4 := by rw [eS4]; exact wkExt.rf
        refine wk_iload_n C dX10_writePoints_28 rfl rfl ?_
        refine wk_aload_n C dX10_writePoints_29 rfl rfl ?_
        refine wk_get C (v := .int (gWords_size S4 l0A)) huX10_writePoints_10 (hXS4 _ _ hl0A).1 (fun cy => wAt_10 cy _ (hXS4 _ _ hl0A).2) rfl 10 (by decide) (List.mem_of_getElem? (i := 1) rfl) rfl rfl dX10_writePoints_30 ?_
        refine wk_iload C dX10_writePoints_33 rfl ?_
        refine wk_isub C dX10_writePoints_35 rfl ?_
        obtain ⟨z5, h⟩ := h
        refine wk_idiv C dX10_writePoints_36 z5 rfl ?_
        obtain ⟨x6, ex6, h⟩ := wkLt_some h
        refine wk_topi ex6 ?_
        refine wk_istore_n C (lv' := [some (.ref l0A), none, some (.ref l2A), some (.int x6), some (.int l4I), none]) dX10_writePoints_37 rfl (by decide) rfl ?_
        obtain ⟨x7, ex7, h⟩ := wkLt_some h
        refine wk_iinc C (lv' := [some (.ref l0A), none, some (.ref l2A), some (.int x6), some (.int x7), none]) dX10_writePoints_38 rfl (by rw [ex7]; rfl) (by decide) rfl ?_
        refine wk_goto C (tgt := 10) dX10_writePoints_41 (by decide) ?_
        exact wk_forget (lv' := [some (.ref l0A), none, some (.ref l2A), some (.int x6), some (.int x7), none]) (wkLs.le ⟨rfl, rfl, rfl, rfl, trivial⟩) (ih.1 _ _ _ _ _ hWS4 (wkExt.tr hE hXS4) (hXS4 _ _ hl0A) (hXS4 _ _ hl2A) h)
    · intro l0A l2A l4I l5I S hW hE hl0A hl2A h
      have h : rX10_writePoints_b1 F (rX10_writePoints_go F k') l0A l2A l4I l5I S Φ := by
        rw [rX10_writePoints_go, if_neg (show ¬ (1 : Nat) = 0 by decide), if_pos (rfl : (1 : Nat) = 1)] at h
        exact h
      unfold rX10_writePoints_b1 at h
      refine wk_iload C dX10_writePoints_50 rfl ?_
      refine wk_aload_n C dX10_writePoints_52 rfl rfl ?_
      refine wk_get C (v := .int (gWords_size S l0A)) huX10_writePoints_10 hl0A.1 (fun cy => wAt_10 cy _ hl0A.2) rfl 10 (by decide) (List.mem_of_getElem? (i := 1) rfl) rfl rfl dX10_writePoints_53 ?_
      refine wk_icmp_ge C (tgt := 90) dX10_writePoints_56 (by decide) (fun c8 => ?_) (fun c8 => ?_)
      · rw [if_pos c8] at h
        exact E _ _ _ _ _ (Nat.le_refl 0) (Nat.le_refl 0) dX10_writePoints_90 ⟨(), rfl, h, hW, hE⟩
      · rw [if_neg c8] at h
        refine wk_aload_n C dX10_writePoints_59 rfl rfl ?_
        refine wk_iload C dX10_writePoints_60 rfl ?_
        refine wk_aload_n C dX10_writePoints_62 rfl rfl ?_
        refine wk_iload C dX10_writePoints_63 rfl ?_
        refine wk_aload_n C dX10_writePoints_65 rfl rfl ?_
        refine wk_iload C dX10_writePoints_66 rfl ?_
        obtain ⟨i9, h⟩ := h
        refine wk_iald C hl2A.1 hl2A.2 i9 rfl dX10_writePoints_68 ?_
        refine wk_callV C hR (As := [.int l4I, .int (S.rI l2A (l5I).toNatClampNeg)]) (cnt := 2) (tX10_unusedPoint (l := l) hW hl0A h) rfl (wkGoodV (List.mem_of_getElem? (i := 2) rfl) (List.mem_of_getElem? (i := 3) rfl) (List.mem_of_getElem? (i := 4) rfl) (List.mem_of_getElem? (i := 5) rfl) hbX10_writePoints_X10_unusedPoint gdX10_unusedPoint) (Nat.le_trans (by decide : 1 + 1 ≤ 2) hd) (by decide) hl0A.1 (fun cy => wAt_10 cy _ hl0A.2) rfl ⟨by decide, by decide, by decide +kernel⟩ rfl rfl (Nat.le_of_ble_eq_true rfl) (Nat.le_refl 0) (Nat.le_refl 0) dX10_writePoints_69 (fun v' S11 hp => ?_)
        obtain ⟨v10, rfl, h, hWS11, hXS11⟩ := hp
        obtain ⟨i15, h⟩ := h
        obtain ⟨S16, eS16, h⟩ := wkLt_some h
        refine wk_iast C (hXS11 _ _ hl2A).1 (hXS11 _ _ hl2A).2 i15 eS16.symm dX10_writePoints_72 ?_
        have hWS16 : wkWF S16 := by rw [eS16]; exact hWS11
        have hXS16 : wkExt S11 S16 := by rw [eS16]; exact wkExt.rf
        refine wk_iload C dX10_writePoints_73 rfl ?_
        refine wk_iconst C (v := 1) dX10_writePoints_75 (by decide) ?_
        refine wk_aload_n C dX10_writePoints_76 rfl rfl ?_
        refine wk_iload C dX10_writePoints_77 rfl ?_
        obtain ⟨i17, h⟩ := h
        refine wk_iald C (hXS16 _ _ (hXS11 _ _ hl2A)).1 (hXS16 _ _ (hXS11 _ _ hl2A)).2 i17 rfl dX10_writePoints_79 ?_
        refine wk_ishl C dX10_writePoints_80 rfl ?_
        refine wk_ior C dX10_writePoints_81 rfl ?_
        obtain ⟨x18, ex18, h⟩ := wkLt_some h
        refine wk_topi ex18 ?_
        refine wk_istore C (lv' := [some (.ref l0A), none, some (.ref l2A), none, some (.int x18), some (.int l5I)]) dX10_writePoints_82 (by decide) rfl ?_
        obtain ⟨x19, ex19, h⟩ := wkLt_some h
        refine wk_iinc C (lv' := [some (.ref l0A), none, some (.ref l2A), none, some (.int x18), some (.int x19)]) dX10_writePoints_84 rfl (by rw [ex19]; rfl) (by decide) rfl ?_
        refine wk_goto C (tgt := 50) dX10_writePoints_87 (by decide) ?_
        exact wk_forget (lv' := [some (.ref l0A), none, some (.ref l2A), none, some (.int x18), some (.int x19)]) (wkLs.le ⟨rfl, rfl, rfl, rfl, trivial⟩) (ih.2 _ _ _ _ _ hWS16 (wkExt.tr (wkExt.tr hE hXS11) hXS16) (hXS16 _ _ (hXS11 _ _ hl0A)) (hXS16 _ _ (hXS11 _ _ hl2A)) h)
set_option maxHeartbeats 4000000 in
set_option maxRecDepth 100000 in
theorem tX10_writePoints {l : Launch} {g : wkG} {F : Nat}  {S : wPS} {l0A : Nat} {l1I : Int32} {l2A : Nat} {Φ : (Unit → wPS → Prop)} (hW : wkWF S) (hl0A : wkIs S l0A 10) (hl2A : wkIs S l2A 13) (h : rX10_writePoints F l0A l1I l2A S Φ) : wkMet l g yX10_writePoints wvX10_writePoints 2 0 0 [.ref l0A, .int l1I, .ref l2A] S (fun v' S'' => ∃ v : Unit, v' = none ∧ Φ v S'' ∧ wkWF S'' ∧ wkExt S S'') := by
  refine wkMet_of (ret := none) (by decide) rfl (Nat.le_of_ble_eq_true rfl) (fun X hg C hR E => ?_)
  subst hg
  have hE : wkExt S S := wkExt.rf
  have hd : 2 ≤ 2 := Nat.le_refl _
  show wkGo l X 6 0 0 0 S [some (.ref l0A), some (.int l1I), some (.ref l2A), none, none, none] []
  have ih := tX10_writePoints_go (F := F) C hR hd E F
  have h : rX10_writePoints_s F (rX10_writePoints_go F F) l0A l1I l2A S Φ := h
  unfold rX10_writePoints_s at h
  refine wk_iload_n C dX10_writePoints_0 rfl rfl ?_
  refine wk_istore_n C (lv' := [some (.ref l0A), some (.int l1I), some (.ref l2A), some (.int l1I), none, none]) dX10_writePoints_1 rfl (by decide) rfl ?_
  refine wk_aload_n C dX10_writePoints_2 rfl rfl ?_
  refine wk_get C (v := .int (gWords_size S l0A)) huX10_writePoints_10 hl0A.1 (fun cy => wAt_10 cy _ hl0A.2) rfl 10 (by decide) (List.mem_of_getElem? (i := 1) rfl) rfl rfl dX10_writePoints_3 ?_
  refine wk_iconst C (v := 1) dX10_writePoints_6 (by decide) ?_
  refine wk_isub C dX10_writePoints_7 rfl ?_
  obtain ⟨x20, ex20, h⟩ := wkLt_some h
  refine wk_topi ex20 ?_
  refine wk_istore C (lv' := [some (.ref l0A), some (.int l1I), some (.ref l2A), some (.int l1I), some (.int x20), none]) dX10_writePoints_8 (by decide) rfl ?_
  exact wk_forget (lv' := [some (.ref l0A), none, some (.ref l2A), some (.int l1I), some (.int x20), none]) (wkLs.le ⟨rfl, rfl, rfl, rfl, trivial⟩) (ih.1 _ _ _ _ _ hW hE hl0A hl2A h)
