def wvX6_lettersAt : List Cond := .code yX6_lettersAt cX6_lettersAt 3 (some .int) :: (([.fieldLink RX6 21 "Witnessworks$Machines" "letters" "[I"] : List Cond) ++ ((wsX60) ++ ([])))
theorem huX6_lettersAt_6 : ∀ w ∈ u_ws RX6 TX6 8, w ∈ wvX6_lettersAt := fun w h => List.mem_cons_of_mem _ (List.mem_append_right _ (List.mem_append_left _ h))
theorem gdX6_lettersAt : ∀ w ∈ wvX6_lettersAt, wkGd w := wkGdC rfl (wkGdA (wkGdL (by decide +kernel)) (wkGdA gdX6 (fun _ h => absurd h List.not_mem_nil)))
def rX6_lettersAt (F : Nat) (l0A : Nat) (l1I : Int32) (l2I : Int32) (S : wPS) (Φ : (Int32 → wPS → Prop)) : Prop :=
  ¬ (((l1I * (8 : Int32)) + l2I) < 0 ∨ S.len (wkAd (gMachines_letters S l0A)) ≤ (((l1I * (8 : Int32)) + l2I)).toNatClampNeg) ∧ Φ (S.rI (wkAd (gMachines_letters S l0A)) (((l1I * (8 : Int32)) + l2I)).toNatClampNeg) S
set_option maxHeartbeats 4000000 in
set_option maxRecDepth 100000 in
theorem tX6_lettersAt {l : Launch} {g : wkG} {F : Nat}  {S : wPS} {l0A : Nat} {l1I : Int32} {l2I : Int32} {Φ : (Int32 → wPS → Prop)} (hW : wkWF S) (hl0A : wkIs S l0A 6) (h : rX6_lettersAt F l0A l1I l2I S Φ) : wkMet l g yX6_lettersAt wvX6_lettersAt 0 0 0 [.ref l0A, .int l1I, .int l2I] S (fun v' S'' => ∃ v : Int32, v' = some (.int v) ∧ Φ v S'' ∧ wkWF S'' ∧ wkExt S S'') := by
  refine wkMet_of (ret := (some .int)) (by decide) rfl (Nat.le_of_ble_eq_true rfl) (fun X hg C hR E => ?_)
  subst hg
  have hE : wkExt S S := wkExt.rf
  have hd : 0 ≤ 0 := Nat.le_refl _
  show wkGo l X 3 0 0 0 S [some (.ref l0A), some (.int l1I), some (.int l2I)] []
  unfold rX6_lettersAt at h
  refine wk_aload_n C dX6_lettersAt_0 rfl rfl ?_
  refine wk_get C huX6_lettersAt_6 hl0A.1 (fun cy => wAt_6 cy _ hl0A.2) rfl 3 (by decide) (List.mem_of_getElem? (i := 1) rfl) rfl (congrArg some (congrArg va_rf (wf_Machines_letters hW hl0A).1)) dX6_lettersAt_1 ?_
  refine wk_iload_n C dX6_lettersAt_4 rfl rfl ?_
  refine wk_bipush C (v := 8) dX6_lettersAt_5 (by decide) ?_
  refine wk_imul C dX6_lettersAt_7 rfl ?_
  refine wk_iload_n C dX6_lettersAt_8 rfl rfl ?_
  refine wk_iadd C dX6_lettersAt_9 rfl ?_
  obtain ⟨i1, h⟩ := h
  refine wk_iald C (wf_Machines_letters hW hl0A).2.1 (wf_Machines_letters hW hl0A).2.2 i1 rfl dX6_lettersAt_10 ?_
  exact E _ _ _ _ _ _ (Nat.le_refl 0) (Nat.le_refl 0) dX6_lettersAt_11 ⟨(S.rI (wkAd (gMachines_letters S l0A)) (((l1I * (8 : Int32)) + l2I)).toNatClampNeg), rfl, h, hW, hE⟩
def wvX6_isToldBy : List Cond := .code yX6_isToldBy cX6_isToldBy 4 (some .boolean) :: (([.fieldLink RX6 11 "Witnessworks$Machines" "byZero" "[I", .methodLink RX6 51 yX6_lettersAt, .instanceMethod yX6_lettersAt, .selects RX6 yX6_lettersAt yX6_lettersAt, .initialized RX6, .fieldLink RX6 15 "Witnessworks$Machines" "byOne" "[I", .fieldLink RX6 18 "Witnessworks$Machines" "finals" "[I"] : List Cond) ++ ((wsX60) ++ (wvX6_lettersAt)))
theorem huX6_isToldBy_6 : ∀ w ∈ u_ws RX6 TX6 8, w ∈ wvX6_isToldBy := fun w h => List.mem_cons_of_mem _ (List.mem_append_right _ (List.mem_append_left _ h))
theorem hbX6_isToldBy_X6_lettersAt : ∀ w ∈ wvX6_lettersAt, w ∈ wvX6_isToldBy := fun w h => List.mem_cons_of_mem _ (List.mem_append_right _ (List.mem_append_right _ h))
theorem gdX6_isToldBy : ∀ w ∈ wvX6_isToldBy, wkGd w := wkGdC rfl (wkGdA (wkGdL (by decide +kernel)) (wkGdA gdX6 gdX6_lettersAt))
def rX6_isToldBy (F : Nat) (l0A : Nat) (l1I : Int32) (l2I : Int32) (l3I : Int32) (S : wPS) (Φ : (Int32 → wPS → Prop)) : Prop :=
  if l3I = 0 then (¬ (l1I < 0 ∨ S.len (wkAd (gMachines_finals S l0A)) ≤ (l1I).toNatClampNeg) ∧ ¬ (l2I < 0 ∨ S.len (wkAd (gMachines_finals S l0A)) ≤ (l2I).toNatClampNeg) ∧ if (S.rI (wkAd (gMachines_finals S l0A)) (l1I).toNatClampNeg) = (S.rI (wkAd (gMachines_finals S l0A)) (l2I).toNatClampNeg) then (Φ (0 : Int32) S) else (Φ (1 : Int32) S)) else (¬ (l1I < 0 ∨ S.len (wkAd (gMachines_byZero S l0A)) ≤ (l1I).toNatClampNeg) ∧ ¬ (l2I < 0 ∨ S.len (wkAd (gMachines_byZero S l0A)) ≤ (l2I).toNatClampNeg) ∧ rX6_lettersAt F l0A (S.rI (wkAd (gMachines_byZero S l0A)) (l1I).toNatClampNeg) (S.rI (wkAd (gMachines_byZero S l0A)) (l2I).toNatClampNeg) S fun v4 S5 => if v4 = (l3I - (1 : Int32)) then (Φ (1 : Int32) S5) else (¬ (l1I < 0 ∨ S5.len (wkAd (gMachines_byOne S5 l0A)) ≤ (l1I).toNatClampNeg) ∧ ¬ (l2I < 0 ∨ S5.len (wkAd (gMachines_byOne S5 l0A)) ≤ (l2I).toNatClampNeg) ∧ rX6_lettersAt F l0A (S5.rI (wkAd (gMachines_byOne S5 l0A)) (l1I).toNatClampNeg) (S5.rI (wkAd (gMachines_byOne S5 l0A)) (l2I).toNatClampNeg) S5 fun v12 S13 => if v12 = (l3I - (1 : Int32)) then (Φ (1 : Int32) S13) else (Φ (0 : Int32) S13)))
set_option maxHeartbeats 4000000 in
set_option maxRecDepth 100000 in
theorem tX6_isToldBy {l : Launch} {g : wkG} {F : Nat}  {S : wPS} {l0A : Nat} {l1I : Int32} {l2I : Int32} {l3I : Int32} {Φ : (Int32 → wPS → Prop)} (hW : wkWF S) (hl0A : wkIs S l0A 6) (h : rX6_isToldBy F l0A l1I l2I l3I S Φ) : wkMet l g yX6_isToldBy wvX6_isToldBy 1 0 0 [.ref l0A, .int l1I, .int l2I, .int l3I] S (fun v' S'' => ∃ v : Int32, v' = some (.int v) ∧ Φ v S'' ∧ wkWF S'' ∧ wkExt S S'') := by
  refine wkMet_of (ret := (some .boolean)) (by decide) rfl (Nat.le_of_ble_eq_true rfl) (fun X hg C hR E => ?_)
  subst hg
  have hE : wkExt S S := wkExt.rf
  have hd : 1 ≤ 1 := Nat.le_refl _
  show wkGo l X 4 0 0 0 S [some (.ref l0A), some (.int l1I), some (.int l2I), some (.int l3I)] []
  unfold rX6_isToldBy at h
  refine wk_iload_n C dX6_isToldBy_0 rfl rfl ?_
  refine wk_if_ne C (tgt := 25) dX6_isToldBy_1 (by decide) (fun c1 => ?_) (fun c1 => ?_)
  · rw [if_neg c1] at h
    refine wk_aload_n C dX6_isToldBy_25 rfl rfl ?_
    refine wk_aload_n C dX6_isToldBy_26 rfl rfl ?_
    refine wk_get C huX6_isToldBy_6 hl0A.1 (fun cy => wAt_6 cy _ hl0A.2) rfl 0 (by decide) (List.mem_of_getElem? (i := 1) rfl) rfl (congrArg some (congrArg va_rf (wf_Machines_byZero hW hl0A).1)) dX6_isToldBy_27 ?_
    refine wk_iload_n C dX6_isToldBy_30 rfl rfl ?_
    obtain ⟨i2, h⟩ := h
    refine wk_iald C (wf_Machines_byZero hW hl0A).2.1 (wf_Machines_byZero hW hl0A).2.2 i2 rfl dX6_isToldBy_31 ?_
    refine wk_aload_n C dX6_isToldBy_32 rfl rfl ?_
    refine wk_get C huX6_isToldBy_6 hl0A.1 (fun cy => wAt_6 cy _ hl0A.2) rfl 0 (by decide) (List.mem_of_getElem? (i := 1) rfl) rfl (congrArg some (congrArg va_rf (wf_Machines_byZero hW hl0A).1)) dX6_isToldBy_33 ?_
    refine wk_iload_n C dX6_isToldBy_36 rfl rfl ?_
    obtain ⟨i3, h⟩ := h
    refine wk_iald C (wf_Machines_byZero hW hl0A).2.1 (wf_Machines_byZero hW hl0A).2.2 i3 rfl dX6_isToldBy_37 ?_
    refine wk_callV C hR (As := [.int (S.rI (wkAd (gMachines_byZero S l0A)) (l1I).toNatClampNeg), .int (S.rI (wkAd (gMachines_byZero S l0A)) (l2I).toNatClampNeg)]) (cnt := 2) (tX6_lettersAt (l := l) hW hl0A h) rfl (wkGoodV (List.mem_of_getElem? (i := 2) rfl) (List.mem_of_getElem? (i := 3) rfl) (List.mem_of_getElem? (i := 4) rfl) (List.mem_of_getElem? (i := 5) rfl) hbX6_isToldBy_X6_lettersAt gdX6_lettersAt) (Nat.le_trans (by decide : 0 + 1 ≤ 1) hd) (by decide) hl0A.1 (fun cy => wAt_6 cy _ hl0A.2) rfl ⟨by decide, by decide, by decide +kernel⟩ rfl rfl (Nat.le_of_ble_eq_true rfl) (Nat.le_refl 0) (Nat.le_refl 0) dX6_isToldBy_38 (fun v' S5 hp => ?_)
    obtain ⟨v4, rfl, h, hWS5, hXS5⟩ := hp
    refine wk_iload_n C dX6_isToldBy_41 rfl rfl ?_
    refine wk_iconst C (v := 1) dX6_isToldBy_42 (by decide) ?_
    refine wk_isub C dX6_isToldBy_43 rfl ?_
    refine wk_icmp_eq C (tgt := 69) dX6_isToldBy_44 (by decide) (fun c9 => ?_) (fun c9 => ?_)
    · rw [if_pos c9] at h
      refine wk_iconst C (v := 1) dX6_isToldBy_69 (by decide) ?_
      refine wk_goto C (tgt := 74) dX6_isToldBy_70 (by decide) ?_
      exact E _ _ _ _ _ _ (Nat.le_refl 0) (Nat.le_refl 0) dX6_isToldBy_74 rfl ⟨(1 : Int32), rfl, h, hWS5, (wkExt.tr hE hXS5)⟩
    · rw [if_neg c9] at h
      refine wk_aload_n C dX6_isToldBy_47 rfl rfl ?_
      refine wk_aload_n C dX6_isToldBy_48 rfl rfl ?_
      refine wk_get C huX6_isToldBy_6 (hXS5 _ _ hl0A).1 (fun cy => wAt_6 cy _ (hXS5 _ _ hl0A).2) rfl 1 (by decide) (List.mem_of_getElem? (i := 6) rfl) rfl (congrArg some (congrArg va_rf (wf_Machines_byOne hWS5 (hXS5 _ _ hl0A)).1)) dX6_isToldBy_49 ?_
      refine wk_iload_n C dX6_isToldBy_52 rfl rfl ?_
      obtain ⟨i10, h⟩ := h
      refine wk_iald C (wf_Machines_byOne hWS5 (hXS5 _ _ hl0A)).2.1 (wf_Machines_byOne hWS5 (hXS5 _ _ hl0A)).2.2 i10 rfl dX6_isToldBy_53 ?_
      refine wk_aload_n C dX6_isToldBy_54 rfl rfl ?_
      refine wk_get C huX6_isToldBy_6 (hXS5 _ _ hl0A).1 (fun cy => wAt_6 cy _ (hXS5 _ _ hl0A).2) rfl 1 (by decide) (List.mem_of_getElem? (i := 6) rfl) rfl (congrArg some (congrArg va_rf (wf_Machines_byOne hWS5 (hXS5 _ _ hl0A)).1)) dX6_isToldBy_55 ?_
      refine wk_iload_n C dX6_isToldBy_58 rfl rfl ?_
      obtain ⟨i11, h⟩ := h
      refine wk_iald C (wf_Machines_byOne hWS5 (hXS5 _ _ hl0A)).2.1 (wf_Machines_byOne hWS5 (hXS5 _ _ hl0A)).2.2 i11 rfl dX6_isToldBy_59 ?_
      refine wk_callV C hR (As := [.int (S5.rI (wkAd (gMachines_byOne S5 l0A)) (l1I).toNatClampNeg), .int (S5.rI (wkAd (gMachines_byOne S5 l0A)) (l2I).toNatClampNeg)]) (cnt := 2) (tX6_lettersAt (l := l) hWS5 (hXS5 _ _ hl0A) h) rfl (wkGoodV (List.mem_of_getElem? (i := 2) rfl) (List.mem_of_getElem? (i := 3) rfl) (List.mem_of_getElem? (i := 4) rfl) (List.mem_of_getElem? (i := 5) rfl) hbX6_isToldBy_X6_lettersAt gdX6_lettersAt) (Nat.le_trans (by decide : 0 + 1 ≤ 1) hd) (by decide) (hXS5 _ _ hl0A).1 (fun cy => wAt_6 cy _ (hXS5 _ _ hl0A).2) rfl ⟨by decide, by decide, by decide +kernel⟩ rfl rfl (Nat.le_of_ble_eq_true rfl) (Nat.le_refl 0) (Nat.le_refl 0) dX6_isToldBy_60 (fun v' S13 hp => ?_)
      obtain ⟨v12, rfl, h, hWS13, hXS13⟩ := hp
      refine wk_iload_n C dX6_isToldBy_63 rfl rfl ?_
      refine wk_iconst C (v := 1) dX6_isToldBy_64 (by decide) ?_
      refine wk_isub C dX6_isToldBy_65 rfl ?_
      refine wk_icmp_ne C (tgt := 73) dX6_isToldBy_66 (by decide) (fun c17 => ?_) (fun c17 => ?_)
      · rw [if_neg c17] at h
        refine wk_iconst C (v := 0) dX6_isToldBy_73 (by decide) ?_
        exact E _ _ _ _ _ _ (Nat.le_refl 0) (Nat.le_refl 0) dX6_isToldBy_74 rfl ⟨(0 : Int32), rfl, h, hWS13, (wkExt.tr (wkExt.tr hE hXS5) hXS13)⟩
      · rw [if_pos c17] at h
        refine wk_iconst C (v := 1) dX6_isToldBy_69 (by decide) ?_
        refine wk_goto C (tgt := 74) dX6_isToldBy_70 (by decide) ?_
        exact E _ _ _ _ _ _ (Nat.le_refl 0) (Nat.le_refl 0) dX6_isToldBy_74 rfl ⟨(1 : Int32), rfl, h, hWS13, (wkExt.tr (wkExt.tr hE hXS5) hXS13)⟩
  · rw [if_pos c1] at h
    refine wk_aload_n C dX6_isToldBy_4 rfl rfl ?_
    refine wk_get C huX6_isToldBy_6 hl0A.1 (fun cy => wAt_6 cy _ hl0A.2) rfl 2 (by decide) (List.mem_of_getElem? (i := 7) rfl) rfl (congrArg some (congrArg va_rf (wf_Machines_finals hW hl0A).1)) dX6_isToldBy_5 ?_
    refine wk_iload_n C dX6_isToldBy_8 rfl rfl ?_
    obtain ⟨i18, h⟩ := h
    refine wk_iald C (wf_Machines_finals hW hl0A).2.1 (wf_Machines_finals hW hl0A).2.2 i18 rfl dX6_isToldBy_9 ?_
    refine wk_aload_n C dX6_isToldBy_10 rfl rfl ?_
    refine wk_get C huX6_isToldBy_6 hl0A.1 (fun cy => wAt_6 cy _ hl0A.2) rfl 2 (by decide) (List.mem_of_getElem? (i := 7) rfl) rfl (congrArg some (congrArg va_rf (wf_Machines_finals hW hl0A).1)) dX6_isToldBy_11 ?_
    refine wk_iload_n C dX6_isToldBy_14 rfl rfl ?_
    obtain ⟨i19, h⟩ := h
    refine wk_iald C (wf_Machines_finals hW hl0A).2.1 (wf_Machines_finals hW hl0A).2.2 i19 rfl dX6_isToldBy_15 ?_
    refine wk_icmp_eq C (tgt := 23) dX6_isToldBy_16 (by decide) (fun c20 => ?_) (fun c20 => ?_)
    · rw [if_pos c20] at h
      refine wk_iconst C (v := 0) dX6_isToldBy_23 (by decide) ?_
      exact E _ _ _ _ _ _ (Nat.le_refl 0) (Nat.le_refl 0) dX6_isToldBy_24 rfl ⟨(0 : Int32), rfl, h, hW, hE⟩
    · rw [if_neg c20] at h
      refine wk_iconst C (v := 1) dX6_isToldBy_19 (by decide) ?_
      refine wk_goto C (tgt := 24) dX6_isToldBy_20 (by decide) ?_
      exact E _ _ _ _ _ _ (Nat.le_refl 0) (Nat.le_refl 0) dX6_isToldBy_24 rfl ⟨(1 : Int32), rfl, h, hW, hE⟩
def wvX6_lowestLike : List Cond := .code yX6_lowestLike cX6_lowestLike 3 (some .int) :: (([.methodLink RX6 51 yX6_lettersAt, .instanceMethod yX6_lettersAt, .selects RX6 yX6_lettersAt yX6_lettersAt, .initialized RX6] : List Cond) ++ (([]) ++ (wvX6_lettersAt)))
theorem hbX6_lowestLike_X6_lettersAt : ∀ w ∈ wvX6_lettersAt, w ∈ wvX6_lowestLike := fun w h => List.mem_cons_of_mem _ (List.mem_append_right _ (List.mem_append_right _ h))
theorem gdX6_lowestLike : ∀ w ∈ wvX6_lowestLike, wkGd w := wkGdC rfl (wkGdA (wkGdL (by decide +kernel)) (wkGdA (fun _ h => absurd h List.not_mem_nil) gdX6_lettersAt))
def rX6_lowestLike_b0 (F : Nat) (rec : Nat → Nat → Int32 → Int32 → wPS → (Int32 → wPS → Prop) → Prop) (l0A : Nat) (l1I : Int32) (l2I : Int32) (S : wPS) (Φ : (Int32 → wPS → Prop)) : Prop :=
  if l1I ≤ l2I then (Φ l1I S) else (rX6_lettersAt F l0A l2I l1I S fun v2 S3 => if 0 ≤ v2 then (wkLt (l2I + (1 : Int32)) fun x8 => rec 0 l0A l1I x8 S3 Φ) else (Φ l2I S3))
def rX6_lowestLike_go (F : Nat) : Nat → Nat → Nat → Int32 → Int32 → wPS → (Int32 → wPS → Prop) → Prop
  | 0, _, _, _, _, _, _ => False
  | k' + 1, lab, l0A, l1I, l2I, S, Φ => if lab = 0 then rX6_lowestLike_b0 F (rX6_lowestLike_go F k') l0A l1I l2I S Φ else False
def rX6_lowestLike_s (F : Nat) (rec : Nat → Nat → Int32 → Int32 → wPS → (Int32 → wPS → Prop) → Prop) (l0A : Nat) (l1I : Int32) (S : wPS) (Φ : (Int32 → wPS → Prop)) : Prop :=
  rec 0 l0A l1I (0 : Int32) S Φ
def rX6_lowestLike (F : Nat) (l0A : Nat) (l1I : Int32) (S : wPS) (Φ : (Int32 → wPS → Prop)) : Prop := rX6_lowestLike_s F (rX6_lowestLike_go F F) l0A l1I S Φ
set_option maxHeartbeats 4000000 in
set_option maxRecDepth 100000 in
theorem tX6_lowestLike_go {l : Launch} {X : wkX} {d F : Nat} {S0 : wPS} {Φ : (Int32 → wPS → Prop)} (C : wkC X cX6_lowestLike RX6 3 wvX6_lowestLike) (hR : wkRm X d 0 0) (hd : 1 ≤ d) (E : wkEnd l X cX6_lowestLike 3 (some .int) 0 0 (fun v' S'' => ∃ v : Int32, v' = some (.int v) ∧ Φ v S'' ∧ wkWF S'' ∧ wkExt S0 S'')) : ∀ k' : Nat, (∀ (l0A : Nat) (l1I : Int32) (l2I : Int32) (S : wPS), wkWF S → wkExt S0 S → wkIs S l0A 6 → rX6_lowestLike_go F k' 0 l0A l1I l2I S Φ → wkGo l X 3 0 0 2 S [some (.ref l0A), some (.int l1I), some (.int l2I)] []) := by
  intro k'
  induction k' with
  | zero => exact fun l0A l1I l2I S hW hE hl0A h => h.elim
  | succ k' ih =>
    · intro l0A l1I l2I S hW hE hl0A h
      have h : rX6_lowestLike_b0 F (rX6_lowestLike_go F k') l0A l1I l2I S Φ := by
        rw [rX6_lowestLike_go, if_pos (rfl : (0 : Nat) = 0)] at h
        exact h
      unfold rX6_lowestLike_b0 at h
      refine wk_iload_n C dX6_lowestLike_2 rfl rfl ?_
      refine wk_iload_n C dX6_lowestLike_3 rfl rfl ?_
      refine wk_icmp_ge C (tgt := 24) dX6_lowestLike_4 (by decide) (fun c1 => ?_) (fun c1 => ?_)
      · rw [if_pos c1] at h
        refine wk_iload_n C dX6_lowestLike_24 rfl rfl ?_
        exact E _ _ _ _ _ _ (Nat.le_refl 0) (Nat.le_refl 0) dX6_lowestLike_25 ⟨l1I, rfl, h, hW, hE⟩
      · rw [if_neg c1] at h
        refine wk_aload_n C dX6_lowestLike_7 rfl rfl ?_
        refine wk_iload_n C dX6_lowestLike_8 rfl rfl ?_
        refine wk_iload_n C dX6_lowestLike_9 rfl rfl ?_
        refine wk_callV C hR (As := [.int l2I, .int l1I]) (cnt := 2) (tX6_lettersAt (l := l) hW hl0A h) rfl (wkGoodV (List.mem_of_getElem? (i := 1) rfl) (List.mem_of_getElem? (i := 2) rfl) (List.mem_of_getElem? (i := 3) rfl) (List.mem_of_getElem? (i := 4) rfl) hbX6_lowestLike_X6_lettersAt gdX6_lettersAt) (Nat.le_trans (by decide : 0 + 1 ≤ 1) hd) (by decide) hl0A.1 (fun cy => wAt_6 cy _ hl0A.2) rfl ⟨by decide, by decide, by decide +kernel⟩ rfl rfl (Nat.le_of_ble_eq_true rfl) (Nat.le_refl 0) (Nat.le_refl 0) dX6_lowestLike_10 (fun v' S3 hp => ?_)
        obtain ⟨v2, rfl, h, hWS3, hXS3⟩ := hp
        refine wk_if_ge C (tgt := 18) dX6_lowestLike_13 (by decide) (fun c7 => ?_) (fun c7 => ?_)
        · rw [if_pos c7] at h
          obtain ⟨x8, ex8, h⟩ := wkLt_some h
          refine wk_iinc C (lv' := [some (.ref l0A), some (.int l1I), some (.int x8)]) dX6_lowestLike_18 rfl (by rw [ex8]; rfl) (by decide) rfl ?_
          refine wk_goto C (tgt := 2) dX6_lowestLike_21 (by decide) ?_
          exact wk_forget (lv' := [some (.ref l0A), some (.int l1I), some (.int x8)]) (wkLs.le ⟨rfl, rfl, rfl, trivial⟩) (ih _ _ _ _ hWS3 (wkExt.tr hE hXS3) (hXS3 _ _ hl0A) h)
        · rw [if_neg c7] at h
          refine wk_iload_n C dX6_lowestLike_16 rfl rfl ?_
          exact E _ _ _ _ _ _ (Nat.le_refl 0) (Nat.le_refl 0) dX6_lowestLike_17 ⟨l2I, rfl, h, hWS3, (wkExt.tr hE hXS3)⟩
set_option maxHeartbeats 4000000 in
set_option maxRecDepth 100000 in
theorem tX6_lowestLike {l : Launch} {g : wkG} {F : Nat}  {S : wPS} {l0A : Nat} {l1I : Int32} {Φ : (Int32 → wPS → Prop)} (hW : wkWF S) (hl0A : wkIs S l0A 6) (h : rX6_lowestLike F l0A l1I S Φ) : wkMet l g yX6_lowestLike wvX6_lowestLike 1 0 0 [.ref l0A, .int l1I] S (fun v' S'' => ∃ v : Int32, v' = some (.int v) ∧ Φ v S'' ∧ wkWF S'' ∧ wkExt S S'') := by
  refine wkMet_of (ret := (some .int)) (by decide) rfl (Nat.le_of_ble_eq_true rfl) (fun X hg C hR E => ?_)
  subst hg
  have hE : wkExt S S := wkExt.rf
  have hd : 1 ≤ 1 := Nat.le_refl _
  show wkGo l X 3 0 0 0 S [some (.ref l0A), some (.int l1I), none] []
  have ih := tX6_lowestLike_go (F := F) C hR hd E F
  have h : rX6_lowestLike_s F (rX6_lowestLike_go F F) l0A l1I S Φ := h
  unfold rX6_lowestLike_s at h
  refine wk_iconst C (v := 0) dX6_lowestLike_0 (by decide) ?_
  refine wk_istore_n C (lv' := [some (.ref l0A), some (.int l1I), some (.int (0 : Int32))]) dX6_lowestLike_1 rfl (by decide) rfl ?_
  exact wk_forget (lv' := [some (.ref l0A), some (.int l1I), some (.int (0 : Int32))]) (wkLs.le ⟨rfl, rfl, rfl, trivial⟩) (ih _ _ _ _ hW hE hl0A h)
def wvX6_loadNodes : List Cond := .code yX6_loadNodes cX6_loadNodes 5 none :: (([.fieldLink RX6 43 "Witnessworks$Machines" "size" "I", .fieldLink RX6 74 "Witnessworks$Entry" "itemCount" "I", .fieldLink RX6 24 "Witnessworks$Machines" "owners" "[I", .methodLink RX6 77 yX3_at, .instanceMethod yX3_at, .selects RX3 yX3_at yX3_at, .initialized RX3, .fieldLink RX6 27 "Witnessworks$Machines" "weights" "[I", .fieldLink RX6 30 "Witnessworks$Machines" "ways" "[I", .fieldLink RX6 73 "Witnessworks$Entry" "size" "I"] : List Cond) ++ ((wsX60 ++ (wsX30)) ++ (wvX3_at)))
theorem huX6_loadNodes_6 : ∀ w ∈ u_ws RX6 TX6 8, w ∈ wvX6_loadNodes := fun w h => List.mem_cons_of_mem _ (List.mem_append_right _ (List.mem_append_left _ (List.mem_append_left _ h)))
theorem huX6_loadNodes_3 : ∀ w ∈ u_ws RX3 TX3 17, w ∈ wvX6_loadNodes := fun w h => List.mem_cons_of_mem _ (List.mem_append_right _ (List.mem_append_left _ (List.mem_append_right _ h)))
theorem hbX6_loadNodes_X3_at : ∀ w ∈ wvX3_at, w ∈ wvX6_loadNodes := fun w h => List.mem_cons_of_mem _ (List.mem_append_right _ (List.mem_append_right _ h))
theorem gdX6_loadNodes : ∀ w ∈ wvX6_loadNodes, wkGd w := wkGdC rfl (wkGdA (wkGdL (by decide +kernel)) (wkGdA (wkGdA gdX6 gdX3) gdX3_at))
def rX6_loadNodes_b0 (F : Nat) (rec : Nat → Nat → Nat → Int32 → Int32 → Int32 → Nat → Int32 → Int32 → wPS → (Unit → wPS → Prop) → Prop) (l0A : Nat) (l1A : Nat) (l2I : Int32) (S : wPS) (Φ : (Unit → wPS → Prop)) : Prop :=
  if (gMachines_size S l0A) ≤ l2I then (Φ () S) else (if (gEntry_itemCount S l1A) ≤ l2I then (if (0 : Int32) = 0 then (rec 1 l0A l1A l2I (0 : Int32) 0 (wkAd (gMachines_owners S l0A)) l2I (0 : Int32) S Φ) else (rX3_at F l1A l2I (0 : Int32) S fun v4 S5 => rec 1 l0A l1A l2I (0 : Int32) 0 (wkAd (gMachines_owners S l0A)) l2I v4 S5 Φ)) else (if (1 : Int32) = 0 then (rec 1 l0A l1A l2I (1 : Int32) 0 (wkAd (gMachines_owners S l0A)) l2I (0 : Int32) S Φ) else (rX3_at F l1A l2I (0 : Int32) S fun v10 S11 => rec 1 l0A l1A l2I (1 : Int32) 0 (wkAd (gMachines_owners S l0A)) l2I v10 S11 Φ)))
def rX6_loadNodes_b1 (F : Nat) (rec : Nat → Nat → Nat → Int32 → Int32 → Int32 → Nat → Int32 → Int32 → wPS → (Unit → wPS → Prop) → Prop) (l0A : Nat) (l1A : Nat) (l2I : Int32) (l3I : Int32) (s0A : Nat) (s1I : Int32) (s2I : Int32) (S : wPS) (Φ : (Unit → wPS → Prop)) : Prop :=
  ¬ (s1I < 0 ∨ S.len s0A ≤ (s1I).toNatClampNeg) ∧ wkLt (wuI S s0A s1I s2I) fun S16 => if l3I = 0 then (¬ (l2I < 0 ∨ S16.len (wkAd (gMachines_weights S16 l0A)) ≤ (l2I).toNatClampNeg) ∧ wkLt (wuI S16 (wkAd (gMachines_weights S16 l0A)) l2I (0 : Int32)) fun S19 => if l3I = 0 then (¬ (l2I < 0 ∨ S19.len (wkAd (gMachines_ways S19 l0A)) ≤ (l2I).toNatClampNeg) ∧ wkLt (wuI S19 (wkAd (gMachines_ways S19 l0A)) l2I ((1 : Int32) <<< (l2I &&& 31))) fun S22 => rec 2 l0A l1A l2I l3I (2 : Int32) 0 0 0 S22 Φ) else (¬ (l2I < 0 ∨ S19.len (wkAd (gMachines_ways S19 l0A)) ≤ (l2I).toNatClampNeg) ∧ wkLt (wuI S19 (wkAd (gMachines_ways S19 l0A)) l2I (0 : Int32)) fun S24 => rec 2 l0A l1A l2I l3I (2 : Int32) 0 0 0 S24 Φ)) else (rX3_at F l1A l2I (1 : Int32) S16 fun v25 S26 => ¬ (l2I < 0 ∨ S26.len (wkAd (gMachines_weights S16 l0A)) ≤ (l2I).toNatClampNeg) ∧ wkLt (wuI S26 (wkAd (gMachines_weights S16 l0A)) l2I v25) fun S31 => if l3I = 0 then (¬ (l2I < 0 ∨ S31.len (wkAd (gMachines_ways S31 l0A)) ≤ (l2I).toNatClampNeg) ∧ wkLt (wuI S31 (wkAd (gMachines_ways S31 l0A)) l2I ((1 : Int32) <<< (l2I &&& 31))) fun S34 => rec 2 l0A l1A l2I l3I (2 : Int32) 0 0 0 S34 Φ) else (¬ (l2I < 0 ∨ S31.len (wkAd (gMachines_ways S31 l0A)) ≤ (l2I).toNatClampNeg) ∧ wkLt (wuI S31 (wkAd (gMachines_ways S31 l0A)) l2I (0 : Int32)) fun S36 => rec 2 l0A l1A l2I l3I (2 : Int32) 0 0 0 S36 Φ))
def rX6_loadNodes_b2 (F : Nat) (rec : Nat → Nat → Nat → Int32 → Int32 → Int32 → Nat → Int32 → Int32 → wPS → (Unit → wPS → Prop) → Prop) (l0A : Nat) (l1A : Nat) (l2I : Int32) (l3I : Int32) (l4I : Int32) (S : wPS) (Φ : (Unit → wPS → Prop)) : Prop :=
  if (5 : Int32) ≤ l4I then (wkLt (l2I + (1 : Int32)) fun x38 => rec 0 l0A l1A x38 0 0 0 0 0 S Φ) else (if l3I = 0 then (wkLt (l2I + (1 : Int32)) fun x40 => rec 0 l0A l1A x40 0 0 0 0 0 S Φ) else (rX3_at F l1A l2I l4I S fun v41 S42 => if v41 < 0 then (wkLt (l4I + (1 : Int32)) fun x47 => rec 2 l0A l1A l2I l3I x47 0 0 0 S42 Φ) else (¬ (l2I < 0 ∨ S42.len (wkAd (gMachines_ways S42 l0A)) ≤ (l2I).toNatClampNeg) ∧ rX3_at F l1A l2I l4I S42 fun v49 S50 => ¬ (l2I < 0 ∨ S50.len (wkAd (gMachines_ways S42 l0A)) ≤ (l2I).toNatClampNeg) ∧ wkLt (wuI S50 (wkAd (gMachines_ways S42 l0A)) l2I ((S42.rI (wkAd (gMachines_ways S42 l0A)) (l2I).toNatClampNeg) ||| ((1 : Int32) <<< (v49 &&& 31)))) fun S55 => wkLt (l4I + (1 : Int32)) fun x56 => rec 2 l0A l1A l2I l3I x56 0 0 0 S55 Φ)))
def rX6_loadNodes_go (F : Nat) : Nat → Nat → Nat → Nat → Int32 → Int32 → Int32 → Nat → Int32 → Int32 → wPS → (Unit → wPS → Prop) → Prop
  | 0, _, _, _, _, _, _, _, _, _, _, _ => False
  | k' + 1, lab, l0A, l1A, l2I, l3I, l4I, s0A, s1I, s2I, S, Φ => if lab = 0 then rX6_loadNodes_b0 F (rX6_loadNodes_go F k') l0A l1A l2I S Φ else if lab = 1 then rX6_loadNodes_b1 F (rX6_loadNodes_go F k') l0A l1A l2I l3I s0A s1I s2I S Φ else if lab = 2 then rX6_loadNodes_b2 F (rX6_loadNodes_go F k') l0A l1A l2I l3I l4I S Φ else False
def rX6_loadNodes_s (F : Nat) (rec : Nat → Nat → Nat → Int32 → Int32 → Int32 → Nat → Int32 → Int32 → wPS → (Unit → wPS → Prop) → Prop) (l0A : Nat) (l1A : Nat) (S : wPS) (Φ : (Unit → wPS → Prop)) : Prop :=
  wkLt (wu_Machines_size S l0A (gEntry_size S l1A)) fun S57 => rec 0 l0A l1A (0 : Int32) 0 0 0 0 0 S57 Φ
def rX6_loadNodes (F : Nat) (l0A : Nat) (l1A : Nat) (S : wPS) (Φ : (Unit → wPS → Prop)) : Prop := rX6_loadNodes_s F (rX6_loadNodes_go F F) l0A l1A S Φ
set_option maxHeartbeats 4000000 in
set_option maxRecDepth 100000 in
theorem tX6_loadNodes_go {l : Launch} {X : wkX} {d F : Nat} {S0 : wPS} {Φ : (Unit → wPS → Prop)} (C : wkC X cX6_loadNodes RX6 5 wvX6_loadNodes) (hR : wkRm X d 0 0) (hd : 1 ≤ d) (E : wkEnd l X cX6_loadNodes 5 none 0 0 (fun v' S'' => ∃ v : Unit, v' = none ∧ Φ v S'' ∧ wkWF S'' ∧ wkExt S0 S'')) : ∀ k' : Nat, (∀ (l0A : Nat) (l1A : Nat) (l2I : Int32) (S : wPS), wkWF S → wkExt S0 S → wkIs S l0A 6 → wkIs S l1A 3 → rX6_loadNodes_go F k' 0 l0A l1A l2I 0 0 0 0 0 S Φ → wkGo l X 5 0 0 10 S [some (.ref l0A), some (.ref l1A), some (.int l2I), none, none] []) ∧ (∀ (l0A : Nat) (l1A : Nat) (l2I : Int32) (l3I : Int32) (s0A : Nat) (s1I : Int32) (s2I : Int32) (S : wPS), wkWF S → wkExt S0 S → wkIs S l0A 6 → wkIs S l1A 3 → wkIs S s0A 13 → rX6_loadNodes_go F k' 1 l0A l1A l2I l3I 0 s0A s1I s2I S Φ → wkGo l X 5 0 0 51 S [some (.ref l0A), some (.ref l1A), some (.int l2I), some (.int l3I), none] [.int s2I, .int s1I, .ref s0A]) ∧ (∀ (l0A : Nat) (l1A : Nat) (l2I : Int32) (l3I : Int32) (l4I : Int32) (S : wPS), wkWF S → wkExt S0 S → wkIs S l0A 6 → wkIs S l1A 3 → rX6_loadNodes_go F k' 2 l0A l1A l2I l3I l4I 0 0 0 S Φ → wkGo l X 5 0 0 92 S [some (.ref l0A), some (.ref l1A), some (.int l2I), some (.int l3I), some (.int l4I)] []) := by
  intro k'
  induction k' with
  | zero => exact ⟨fun l0A l1A l2I S hW hE hl0A hl1A h => h.elim, fun l0A l1A l2I l3I s0A s1I s2I S hW hE hl0A hl1A hs0A h => h.elim, fun l0A l1A l2I l3I l4I S hW hE hl0A hl1A h => h.elim⟩
  | succ k' ih =>
    refine ⟨?_, ?_, ?_⟩
    · intro l0A l1A l2I S hW hE hl0A hl1A h
      have h : rX6_loadNodes_b0 F (rX6_loadNodes_go F k') l0A l1A l2I S Φ := by
        rw [rX6_loadNodes_go, if_pos (rfl : (0 : Nat) = 0)] at h
        exact h
      unfold rX6_loadNodes_b0 at h
      refine wk_iload_n C dX6_loadNodes_10 rfl rfl ?_
      refine wk_aload_n C dX6_loadNodes_11 rfl rfl ?_
      refine wk_get C (v := .int (gMachines_size S l0A)) huX6_loadNodes_6 hl0A.1 (fun cy => wAt_6 cy _ hl0A.2) rfl 7 (by decide) (List.mem_of_getElem? (i := 1) rfl) rfl rfl dX6_loadNodes_12 ?_
      refine wk_icmp_ge C (tgt := 142) dX6_loadNodes_15 (by decide) (fun c1 => ?_) (fun c1 => ?_)
      · rw [if_pos c1] at h
        exact E _ _ _ _ _ (Nat.le_refl 0) (Nat.le_refl 0) dX6_loadNodes_142 ⟨(), rfl, h, hW, hE⟩
      · rw [if_neg c1] at h
        refine wk_iload_n C dX6_loadNodes_18 rfl rfl ?_
        refine wk_aload_n C dX6_loadNodes_19 rfl rfl ?_
        refine wk_get C (v := .int (gEntry_itemCount S l1A)) huX6_loadNodes_3 hl1A.1 (fun cy => wAt_3 cy _ hl1A.2) rfl 6 (by decide) (List.mem_of_getElem? (i := 2) rfl) rfl rfl dX6_loadNodes_20 ?_
        refine wk_icmp_ge C (tgt := 30) dX6_loadNodes_23 (by decide) (fun c2 => ?_) (fun c2 => ?_)
        · rw [if_pos c2] at h
          refine wk_iconst C (v := 0) dX6_loadNodes_30 (by decide) ?_
          refine wk_istore_n C (lv' := [some (.ref l0A), some (.ref l1A), some (.int l2I), some (.int (0 : Int32)), none]) dX6_loadNodes_31 rfl (by decide) rfl ?_
          refine wk_aload_n C dX6_loadNodes_32 rfl rfl ?_
          refine wk_get C huX6_loadNodes_6 hl0A.1 (fun cy => wAt_6 cy _ hl0A.2) rfl 4 (by decide) (List.mem_of_getElem? (i := 3) rfl) rfl (congrArg some (congrArg va_rf (wf_Machines_owners hW hl0A).1)) dX6_loadNodes_33 ?_
          refine wk_iload_n C dX6_loadNodes_36 rfl rfl ?_
          refine wk_iload_n C dX6_loadNodes_37 rfl rfl ?_
          refine wk_if_eq C (tgt := 50) dX6_loadNodes_38 (by decide) (fun c3 => ?_) (fun c3 => ?_)
          · rw [if_pos c3] at h
            refine wk_iconst C (v := 0) dX6_loadNodes_50 (by decide) ?_
            exact wk_forget (lv' := [some (.ref l0A), some (.ref l1A), some (.int l2I), some (.int (0 : Int32)), none]) (wkLs.le ⟨rfl, rfl, rfl, rfl, trivial⟩) (ih.2.1 _ _ _ _ _ _ _ _ hW hE hl0A hl1A (wf_Machines_owners hW hl0A).2 h)
          · rw [if_neg c3] at h
            refine wk_aload_n C dX6_loadNodes_41 rfl rfl ?_
            refine wk_iload_n C dX6_loadNodes_42 rfl rfl ?_
            refine wk_iconst C (v := 0) dX6_loadNodes_43 (by decide) ?_
            refine wk_callV C hR (As := [.int l2I, .int (0 : Int32)]) (cnt := 2) (tX3_at (l := l) hW hl1A h) rfl (wkGoodV (List.mem_of_getElem? (i := 4) rfl) (List.mem_of_getElem? (i := 5) rfl) (List.mem_of_getElem? (i := 6) rfl) (List.mem_of_getElem? (i := 7) rfl) hbX6_loadNodes_X3_at gdX3_at) (Nat.le_trans (by decide : 0 + 1 ≤ 1) hd) (by decide) hl1A.1 (fun cy => wAt_3 cy _ hl1A.2) rfl ⟨by decide, by decide, by decide +kernel⟩ rfl rfl (Nat.le_of_ble_eq_true rfl) (Nat.le_refl 0) (Nat.le_refl 0) dX6_loadNodes_44 (fun v' S5 hp => ?_)
            obtain ⟨v4, rfl, h, hWS5, hXS5⟩ := hp
            refine wk_goto C (tgt := 51) dX6_loadNodes_47 (by decide) ?_
            exact wk_forget (lv' := [some (.ref l0A), some (.ref l1A), some (.int l2I), some (.int (0 : Int32)), none]) (wkLs.le ⟨rfl, rfl, rfl, rfl, trivial⟩) (ih.2.1 _ _ _ _ _ _ _ _ hWS5 (wkExt.tr hE hXS5) (hXS5 _ _ hl0A) (hXS5 _ _ hl1A) (hXS5 _ _ (wf_Machines_owners hW hl0A).2) h)
        · rw [if_neg c2] at h
          refine wk_iconst C (v := 1) dX6_loadNodes_26 (by decide) ?_
          refine wk_goto C (tgt := 31) dX6_loadNodes_27 (by decide) ?_
          refine wk_istore_n C (lv' := [some (.ref l0A), some (.ref l1A), some (.int l2I), some (.int (1 : Int32)), none]) dX6_loadNodes_31 rfl (by decide) rfl ?_
          refine wk_aload_n C dX6_loadNodes_32 rfl rfl ?_
          refine wk_get C huX6_loadNodes_6 hl0A.1 (fun cy => wAt_6 cy _ hl0A.2) rfl 4 (by decide) (List.mem_of_getElem? (i := 3) rfl) rfl (congrArg some (congrArg va_rf (wf_Machines_owners hW hl0A).1)) dX6_loadNodes_33 ?_
          refine wk_iload_n C dX6_loadNodes_36 rfl rfl ?_
          refine wk_iload_n C dX6_loadNodes_37 rfl rfl ?_
          refine wk_if_eq C (tgt := 50) dX6_loadNodes_38 (by decide) (fun c9 => ?_) (fun c9 => ?_)
          · rw [if_pos c9] at h
            refine wk_iconst C (v := 0) dX6_loadNodes_50 (by decide) ?_
            exact wk_forget (lv' := [some (.ref l0A), some (.ref l1A), some (.int l2I), some (.int (1 : Int32)), none]) (wkLs.le ⟨rfl, rfl, rfl, rfl, trivial⟩) (ih.2.1 _ _ _ _ _ _ _ _ hW hE hl0A hl1A (wf_Machines_owners hW hl0A).2 h)
          · rw [if_neg c9] at h
            refine wk_aload_n C dX6_loadNodes_41 rfl rfl ?_
            refine wk_iload_n C dX6_loadNodes_42 rfl rfl ?_
            refine wk_iconst C (v := 0) dX6_loadNodes_43 (by decide) ?_
            refine wk_callV C hR (As := [.int l2I, .int (0 : Int32)]) (cnt := 2) (tX3_at (l := l) hW hl1A h) rfl (wkGoodV (List.mem_of_getElem? (i := 4) rfl) (List.mem_of_getElem? (i := 5) rfl) (List.mem_of_getElem? (i := 6) rfl) (List.mem_of_getElem? (i := 7) rfl) hbX6_loadNodes_X3_at gdX3_at) (Nat.le_trans (by decide : 0 + 1 ≤ 1) hd) (by decide) hl1A.1 (fun cy => wAt_3 cy _ hl1A.2) rfl ⟨by decide, by decide, by decide +kernel⟩ rfl rfl (Nat.le_of_ble_eq_true rfl) (Nat.le_refl 0) (Nat.le_refl 0) dX6_loadNodes_44 (fun v' S11 hp => ?_)
            obtain ⟨v10, rfl, h, hWS11, hXS11⟩ := hp
            refine wk_goto C (tgt := 51) dX6_loadNodes_47 (by decide) ?_
            exact wk_forget (lv' := [some (.ref l0A), some (.ref l1A), some (.int l2I), some (.int (1 : Int32)), none]) (wkLs.le ⟨rfl, rfl, rfl, rfl, trivial⟩) (ih.2.1 _ _ _ _ _ _ _ _ hWS11 (wkExt.tr hE hXS11) (hXS11 _ _ hl0A) (hXS11 _ _ hl1A) (hXS11 _ _ (wf_Machines_owners hW hl0A).2) h)
    · intro l0A l1A l2I l3I s0A s1I s2I S hW hE hl0A hl1A hs0A h
      have h : rX6_loadNodes_b1 F (rX6_loadNodes_go F k') l0A l1A l2I l3I s0A s1I s2I S Φ := by
        rw [rX6_loadNodes_go, if_neg (show ¬ (1 : Nat) = 0 by decide), if_pos (rfl : (1 : Nat) = 1)] at h
        exact h
      unfold rX6_loadNodes_b1 at h
      obtain ⟨i15, h⟩ := h
      obtain ⟨S16, eS16, h⟩ := wkLt_some h
      refine wk_iast C hs0A.1 hs0A.2 i15 eS16.symm dX6_loadNodes_51 ?_
      have hWS16 : wkWF S16 := by rw [eS16]; exact hW
      have hXS16 : wkExt S S16 := by rw [eS16]; exact wkExt.rf
      refine wk_aload_n C dX6_loadNodes_52 rfl rfl ?_
      refine wk_get C huX6_loadNodes_6 (hXS16 _ _ hl0A).1 (fun cy => wAt_6 cy _ (hXS16 _ _ hl0A).2) rfl 5 (by decide) (List.mem_of_getElem? (i := 8) rfl) rfl (congrArg some (congrArg va_rf (wf_Machines_weights hWS16 (hXS16 _ _ hl0A)).1)) dX6_loadNodes_53 ?_
      refine wk_iload_n C dX6_loadNodes_56 rfl rfl ?_
      refine wk_iload_n C dX6_loadNodes_57 rfl rfl ?_
      refine wk_if_eq C (tgt := 70) dX6_loadNodes_58 (by decide) (fun c17 => ?_) (fun c17 => ?_)
      · rw [if_pos c17] at h
        refine wk_iconst C (v := 0) dX6_loadNodes_70 (by decide) ?_
        obtain ⟨i18, h⟩ := h
        obtain ⟨S19, eS19, h⟩ := wkLt_some h
        refine wk_iast C (wf_Machines_weights hWS16 (hXS16 _ _ hl0A)).2.1 (wf_Machines_weights hWS16 (hXS16 _ _ hl0A)).2.2 i18 eS19.symm dX6_loadNodes_71 ?_
        have hWS19 : wkWF S19 := by rw [eS19]; exact hWS16
        have hXS19 : wkExt S16 S19 := by rw [eS19]; exact wkExt.rf
        refine wk_aload_n C dX6_loadNodes_72 rfl rfl ?_
        refine wk_get C huX6_loadNodes_6 (hXS19 _ _ (hXS16 _ _ hl0A)).1 (fun cy => wAt_6 cy _ (hXS19 _ _ (hXS16 _ _ hl0A)).2) rfl 6 (by decide) (List.mem_of_getElem? (i := 9) rfl) rfl (congrArg some (congrArg va_rf (wf_Machines_ways hWS19 (hXS19 _ _ (hXS16 _ _ hl0A))).1)) dX6_loadNodes_73 ?_
        refine wk_iload_n C dX6_loadNodes_76 rfl rfl ?_
        refine wk_iload_n C dX6_loadNodes_77 rfl rfl ?_
        refine wk_if_eq C (tgt := 85) dX6_loadNodes_78 (by decide) (fun c20 => ?_) (fun c20 => ?_)
        · rw [if_pos c20] at h
          refine wk_iconst C (v := 1) dX6_loadNodes_85 (by decide) ?_
          refine wk_iload_n C dX6_loadNodes_86 rfl rfl ?_
          refine wk_ishl C dX6_loadNodes_87 rfl ?_
          obtain ⟨i21, h⟩ := h
          obtain ⟨S22, eS22, h⟩ := wkLt_some h
          refine wk_iast C (wf_Machines_ways hWS19 (hXS19 _ _ (hXS16 _ _ hl0A))).2.1 (wf_Machines_ways hWS19 (hXS19 _ _ (hXS16 _ _ hl0A))).2.2 i21 eS22.symm dX6_loadNodes_88 ?_
          have hWS22 : wkWF S22 := by rw [eS22]; exact hWS19
          have hXS22 : wkExt S19 S22 := by rw [eS22]; exact wkExt.rf
          refine wk_iconst C (v := 2) dX6_loadNodes_89 (by decide) ?_
          refine wk_istore C (lv' := [some (.ref l0A), some (.ref l1A), some (.int l2I), some (.int l3I), some (.int (2 : Int32))]) dX6_loadNodes_90 (by decide) rfl ?_
          exact wk_forget (lv' := [some (.ref l0A), some (.ref l1A), some (.int l2I), some (.int l3I), some (.int (2 : Int32))]) (wkLs.le ⟨rfl, rfl, rfl, rfl, rfl, trivial⟩) (ih.2.2 _ _ _ _ _ _ hWS22 (wkExt.tr (wkExt.tr (wkExt.tr hE hXS16) hXS19) hXS22) (hXS22 _ _ (hXS19 _ _ (hXS16 _ _ hl0A))) (hXS22 _ _ (hXS19 _ _ (hXS16 _ _ hl1A))) h)
        · rw [if_neg c20] at h
          refine wk_iconst C (v := 0) dX6_loadNodes_81 (by decide) ?_
          refine wk_goto C (tgt := 88) dX6_loadNodes_82 (by decide) ?_
          obtain ⟨i23, h⟩ := h
          obtain ⟨S24, eS24, h⟩ := wkLt_some h
          refine wk_iast C (wf_Machines_ways hWS19 (hXS19 _ _ (hXS16 _ _ hl0A))).2.1 (wf_Machines_ways hWS19 (hXS19 _ _ (hXS16 _ _ hl0A))).2.2 i23 eS24.symm dX6_loadNodes_88 ?_
          have hWS24 : wkWF S24 := by rw [eS24]; exact hWS19
          have hXS24 : wkExt S19 S24 := by rw [eS24]; exact wkExt.rf
          refine wk_iconst C (v := 2) dX6_loadNodes_89 (by decide) ?_
          refine wk_istore C (lv' := [some (.ref l0A), some (.ref l1A), some (.int l2I), some (.int l3I), some (.int (2 : Int32))]) dX6_loadNodes_90 (by decide) rfl ?_
          exact wk_forget (lv' := [some (.ref l0A), some (.ref l1A), some (.int l2I), some (.int l3I), some (.int (2 : Int32))]) (wkLs.le ⟨rfl, rfl, rfl, rfl, rfl, trivial⟩) (ih.2.2 _ _ _ _ _ _ hWS24 (wkExt.tr (wkExt.tr (wkExt.tr hE hXS16) hXS19) hXS24) (hXS24 _ _ (hXS19 _ _ (hXS16 _ _ hl0A))) (hXS24 _ _ (hXS19 _ _ (hXS16 _ _ hl1A))) h)
      · rw [if_neg c17] at h
        refine wk_aload_n C dX6_loadNodes_61 rfl rfl ?_
        refine wk_iload_n C dX6_loadNodes_62 rfl rfl ?_
        refine wk_iconst C (v := 1) dX6_loadNodes_63 (by decide) ?_
        refine wk_callV C hR (As := [.int l2I, .int (1 : Int32)]) (cnt := 2) (tX3_at (l := l) hWS16 (hXS16 _ _ hl1A) h) rfl (wkGoodV (List.mem_of_getElem? (i := 4) rfl) (List.mem_of_getElem? (i := 5) rfl) (List.mem_of_getElem? (i := 6) rfl) (List.mem_of_getElem? (i := 7) rfl) hbX6_loadNodes_X3_at gdX3_at) (Nat.le_trans (by decide : 0 + 1 ≤ 1) hd) (by decide) (hXS16 _ _ hl1A).1 (fun cy => wAt_3 cy _ (hXS16 _ _ hl1A).2) rfl ⟨by decide, by decide, by decide +kernel⟩ rfl rfl (Nat.le_of_ble_eq_true rfl) (Nat.le_refl 0) (Nat.le_refl 0) dX6_loadNodes_64 (fun v' S26 hp => ?_)
        obtain ⟨v25, rfl, h, hWS26, hXS26⟩ := hp
        refine wk_goto C (tgt := 71) dX6_loadNodes_67 (by decide) ?_
        obtain ⟨i30, h⟩ := h
        obtain ⟨S31, eS31, h⟩ := wkLt_some h
        refine wk_iast C (hXS26 _ _ (wf_Machines_weights hWS16 (hXS16 _ _ hl0A)).2).1 (hXS26 _ _ (wf_Machines_weights hWS16 (hXS16 _ _ hl0A)).2).2 i30 eS31.symm dX6_loadNodes_71 ?_
        have hWS31 : wkWF S31 := by rw [eS31]; exact hWS26
        have hXS31 : wkExt S26 S31 := by rw [eS31]; exact wkExt.rf
        refine wk_aload_n C dX6_loadNodes_72 rfl rfl ?_
        refine wk_get C huX6_loadNodes_6 (hXS31 _ _ (hXS26 _ _ (hXS16 _ _ hl0A))).1 (fun cy => wAt_6 cy _ (hXS31 _ _ (hXS26 _ _ (hXS16 _ _ hl0A))).2) rfl 6 (by decide) (List.mem_of_getElem? (i := 9) rfl) rfl (congrArg some (congrArg va_rf (wf_Machines_ways hWS31 (hXS31 _ _ (hXS26 _ _ (hXS16 _ _ hl0A)))).1)) dX6_loadNodes_73 ?_
        refine wk_iload_n C dX6_loadNodes_76 rfl rfl ?_
        refine wk_iload_n C dX6_loadNodes_77 rfl rfl ?_
        refine wk_if_eq C (tgt := 85) dX6_loadNodes_78 (by decide) (fun c32 => ?_) (fun c32 => ?_)
        · rw [if_pos c32] at h
          refine wk_iconst C (v := 1) dX6_loadNodes_85 (by decide) ?_
          refine wk_iload_n C dX6_loadNodes_86 rfl rfl ?_
          refine wk_ishl C dX6_loadNodes_87 rfl ?_
          obtain ⟨i33, h⟩ := h
          obtain ⟨S34, eS34, h⟩ := wkLt_some h
          refine wk_iast C (wf_Machines_ways hWS31 (hXS31 _ _ (hXS26 _ _ (hXS16 _ _ hl0A)))).2.1 (wf_Machines_ways hWS31 (hXS31 _ _ (hXS26 _ _ (hXS16 _ _ hl0A)))).2.2 i33 eS34.symm dX6_loadNodes_88 ?_
          have hWS34 : wkWF S34 := by rw [eS34]; exact hWS31
          have hXS34 : wkExt S31 S34 := by rw [eS34]; exact wkExt.rf
          refine wk_iconst C (v := 2) dX6_loadNodes_89 (by decide) ?_
          refine wk_istore C (lv' := [some (.ref l0A), some (.ref l1A), some (.int l2I), some (.int l3I), some (.int (2 : Int32))]) dX6_loadNodes_90 (by decide) rfl ?_
          exact wk_forget (lv' := [some (.ref l0A), some (.ref l1A), some (.int l2I), some (.int l3I), some (.int (2 : Int32))]) (wkLs.le ⟨rfl, rfl, rfl, rfl, rfl, trivial⟩) (ih.2.2 _ _ _ _ _ _ hWS34 (wkExt.tr (wkExt.tr (wkExt.tr (wkExt.tr hE hXS16) hXS26) hXS31) hXS34) (hXS34 _ _ (hXS31 _ _ (hXS26 _ _ (hXS16 _ _ hl0A)))) (hXS34 _ _ (hXS31 _ _ (hXS26 _ _ (hXS16 _ _ hl1A)))) h)
        · rw [if_neg c32] at h
          refine wk_iconst C (v := 0) dX6_loadNodes_81 (by decide) ?_
          refine wk_goto C (tgt := 88) dX6_loadNodes_82 (by decide) ?_
          obtain ⟨i35, h⟩ := h
          obtain ⟨S36, eS36, h⟩ := wkLt_some h
          refine wk_iast C (wf_Machines_ways hWS31 (hXS31 _ _ (hXS26 _ _ (hXS16 _ _ hl0A)))).2.1 (wf_Machines_ways hWS31 (hXS31 _ _ (hXS26 _ _ (hXS16 _ _ hl0A)))).2.2 i35 eS36.symm dX6_loadNodes_88 ?_
          have hWS36 : wkWF S36 := by rw [eS36]; exact hWS31
          have hXS36 : wkExt S31 S36 := by rw [eS36]; exact wkExt.rf
          refine wk_iconst C (v := 2) dX6_loadNodes_89 (by decide) ?_
          refine wk_istore C (lv' := [some (.ref l0A), some (.ref l1A), some (.int l2I), some (.int l3I), some (.int (2 : Int32))]) dX6_loadNodes_90 (by decide) rfl ?_
          exact wk_forget (lv' := [some (.ref l0A), some (.ref l1A), some (.int l2I), some (.int l3I), some (.int (2 : Int32))]) (wkLs.le ⟨rfl, rfl, rfl, rfl, rfl, trivial⟩) (ih.2.2 _ _ _ _ _ _ hWS36 (wkExt.tr (wkExt.tr (wkExt.tr (wkExt.tr hE hXS16) hXS26) hXS31) hXS36) (hXS36 _ _ (hXS31 _ _ (hXS26 _ _ (hXS16 _ _ hl0A)))) (hXS36 _ _ (hXS31 _ _ (hXS26 _ _ (hXS16 _ _ hl1A)))) h)
    · intro l0A l1A l2I l3I l4I S hW hE hl0A hl1A h
      have h : rX6_loadNodes_b2 F (rX6_loadNodes_go F k') l0A l1A l2I l3I l4I S Φ := by
        rw [rX6_loadNodes_go, if_neg (show ¬ (2 : Nat) = 0 by decide), if_neg (show ¬ (2 : Nat) = 1 by decide), if_pos (rfl : (2 : Nat) = 2)] at h
        exact h
      unfold rX6_loadNodes_b2 at h
      refine wk_iload C dX6_loadNodes_92 rfl ?_
      refine wk_iconst C (v := 5) dX6_loadNodes_94 (by decide) ?_
      refine wk_icmp_ge C (tgt := 136) dX6_loadNodes_95 (by decide) (fun c37 => ?_) (fun c37 => ?_)
      · rw [if_pos c37] at h
        obtain ⟨x38, ex38, h⟩ := wkLt_some h
        refine wk_iinc C (lv' := [some (.ref l0A), some (.ref l1A), some (.int x38), some (.int l3I), some (.int l4I)]) dX6_loadNodes_136 rfl (by rw [ex38]; rfl) (by decide) rfl ?_
        refine wk_goto C (tgt := 10) dX6_loadNodes_139 (by decide) ?_
        exact wk_forget (lv' := [some (.ref l0A), some (.ref l1A), some (.int x38), none, none]) (wkLs.le ⟨rfl, rfl, rfl, trivial⟩) (ih.1 _ _ _ _ hW hE hl0A hl1A h)
      · rw [if_neg c37] at h
        refine wk_iload_n C dX6_loadNodes_98 rfl rfl ?_
        refine wk_if_eq C (tgt := 136) dX6_loadNodes_99 (by decide) (fun c39 => ?_) (fun c39 => ?_)
        · rw [if_pos c39] at h
          obtain ⟨x40, ex40, h⟩ := wkLt_some h
          refine wk_iinc C (lv' := [some (.ref l0A), some (.ref l1A), some (.int x40), some (.int l3I), some (.int l4I)]) dX6_loadNodes_136 rfl (by rw [ex40]; rfl) (by decide) rfl ?_
          refine wk_goto C (tgt := 10) dX6_loadNodes_139 (by decide) ?_
          exact wk_forget (lv' := [some (.ref l0A), some (.ref l1A), some (.int x40), none, none]) (wkLs.le ⟨rfl, rfl, rfl, trivial⟩) (ih.1 _ _ _ _ hW hE hl0A hl1A h)
        · rw [if_neg c39] at h
          refine wk_aload_n C dX6_loadNodes_102 rfl rfl ?_
          refine wk_iload_n C dX6_loadNodes_103 rfl rfl ?_
          refine wk_iload C dX6_loadNodes_104 rfl ?_
          refine wk_callV C hR (As := [.int l2I, .int l4I]) (cnt := 2) (tX3_at (l := l) hW hl1A h) rfl (wkGoodV (List.mem_of_getElem? (i := 4) rfl) (List.mem_of_getElem? (i := 5) rfl) (List.mem_of_getElem? (i := 6) rfl) (List.mem_of_getElem? (i := 7) rfl) hbX6_loadNodes_X3_at gdX3_at) (Nat.le_trans (by decide : 0 + 1 ≤ 1) hd) (by decide) hl1A.1 (fun cy => wAt_3 cy _ hl1A.2) rfl ⟨by decide, by decide, by decide +kernel⟩ rfl rfl (Nat.le_of_ble_eq_true rfl) (Nat.le_refl 0) (Nat.le_refl 0) dX6_loadNodes_106 (fun v' S42 hp => ?_)
          obtain ⟨v41, rfl, h, hWS42, hXS42⟩ := hp
          refine wk_if_lt C (tgt := 130) dX6_loadNodes_109 (by decide) (fun c46 => ?_) (fun c46 => ?_)
          · rw [if_pos c46] at h
            obtain ⟨x47, ex47, h⟩ := wkLt_some h
            refine wk_iinc C (lv' := [some (.ref l0A), some (.ref l1A), some (.int l2I), some (.int l3I), some (.int x47)]) dX6_loadNodes_130 rfl (by rw [ex47]; rfl) (by decide) rfl ?_
            refine wk_goto C (tgt := 92) dX6_loadNodes_133 (by decide) ?_
            exact wk_forget (lv' := [some (.ref l0A), some (.ref l1A), some (.int l2I), some (.int l3I), some (.int x47)]) (wkLs.le ⟨rfl, rfl, rfl, rfl, rfl, trivial⟩) (ih.2.2 _ _ _ _ _ _ hWS42 (wkExt.tr hE hXS42) (hXS42 _ _ hl0A) (hXS42 _ _ hl1A) h)
          · rw [if_neg c46] at h
            refine wk_aload_n C dX6_loadNodes_112 rfl rfl ?_
            refine wk_get C huX6_loadNodes_6 (hXS42 _ _ hl0A).1 (fun cy => wAt_6 cy _ (hXS42 _ _ hl0A).2) rfl 6 (by decide) (List.mem_of_getElem? (i := 9) rfl) rfl (congrArg some (congrArg va_rf (wf_Machines_ways hWS42 (hXS42 _ _ hl0A)).1)) dX6_loadNodes_113 ?_
            refine wk_iload_n C dX6_loadNodes_116 rfl rfl ?_
            refine wk_dup2 C dX6_loadNodes_117 rfl rfl ?_
            obtain ⟨i48, h⟩ := h
            refine wk_iald C (wf_Machines_ways hWS42 (hXS42 _ _ hl0A)).2.1 (wf_Machines_ways hWS42 (hXS42 _ _ hl0A)).2.2 i48 rfl dX6_loadNodes_118 ?_
            refine wk_iconst C (v := 1) dX6_loadNodes_119 (by decide) ?_
            refine wk_aload_n C dX6_loadNodes_120 rfl rfl ?_
            refine wk_iload_n C dX6_loadNodes_121 rfl rfl ?_
            refine wk_iload C dX6_loadNodes_122 rfl ?_
            refine wk_callV C hR (As := [.int l2I, .int l4I]) (cnt := 2) (tX3_at (l := l) hWS42 (hXS42 _ _ hl1A) h) rfl (wkGoodV (List.mem_of_getElem? (i := 4) rfl) (List.mem_of_getElem? (i := 5) rfl) (List.mem_of_getElem? (i := 6) rfl) (List.mem_of_getElem? (i := 7) rfl) hbX6_loadNodes_X3_at gdX3_at) (Nat.le_trans (by decide : 0 + 1 ≤ 1) hd) (by decide) (hXS42 _ _ hl1A).1 (fun cy => wAt_3 cy _ (hXS42 _ _ hl1A).2) rfl ⟨by decide, by decide, by decide +kernel⟩ rfl rfl (Nat.le_of_ble_eq_true rfl) (Nat.le_refl 0) (Nat.le_refl 0) dX6_loadNodes_124 (fun v' S50 hp => ?_)
            obtain ⟨v49, rfl, h, hWS50, hXS50⟩ := hp
            refine wk_ishl C dX6_loadNodes_127 rfl ?_
            refine wk_ior C dX6_loadNodes_128 rfl ?_
            obtain ⟨i54, h⟩ := h
            obtain ⟨S55, eS55, h⟩ := wkLt_some h
            refine wk_iast C (hXS50 _ _ (wf_Machines_ways hWS42 (hXS42 _ _ hl0A)).2).1 (hXS50 _ _ (wf_Machines_ways hWS42 (hXS42 _ _ hl0A)).2).2 i54 eS55.symm dX6_loadNodes_129 ?_
            have hWS55 : wkWF S55 := by rw [eS55]; exact hWS50
            have hXS55 : wkExt S50 S55 := by rw [eS55]; exact wkExt.rf
            obtain ⟨x56, ex56, h⟩ := wkLt_some h
            refine wk_iinc C (lv' := [some (.ref l0A), some (.ref l1A), some (.int l2I), some (.int l3I), some (.int x56)]) dX6_loadNodes_130 rfl (by rw [ex56]; rfl) (by decide) rfl ?_
            refine wk_goto C (tgt := 92) dX6_loadNodes_133 (by decide) ?_
            exact wk_forget (lv' := [some (.ref l0A), some (.ref l1A), some (.int l2I), some (.int l3I), some (.int x56)]) (wkLs.le ⟨rfl, rfl, rfl, rfl, rfl, trivial⟩) (ih.2.2 _ _ _ _ _ _ hWS55 (wkExt.tr (wkExt.tr (wkExt.tr hE hXS42) hXS50) hXS55) (hXS55 _ _ (hXS50 _ _ (hXS42 _ _ hl0A))) (hXS55 _ _ (hXS50 _ _ (hXS42 _ _ hl1A))) h)
set_option maxHeartbeats 4000000 in
set_option maxRecDepth 100000 in
theorem tX6_loadNodes {l : Launch} {g : wkG} {F : Nat}  {S : wPS} {l0A : Nat} {l1A : Nat} {Φ : (Unit → wPS → Prop)} (hW : wkWF S) (hl0A : wkIs S l0A 6) (hl1A : wkIs S l1A 3) (h : rX6_loadNodes F l0A l1A S Φ) : wkMet l g yX6_loadNodes wvX6_loadNodes 1 0 0 [.ref l0A, .ref l1A] S (fun v' S'' => ∃ v : Unit, v' = none ∧ Φ v S'' ∧ wkWF S'' ∧ wkExt S S'') := by
  refine wkMet_of (ret := none) (by decide) rfl (Nat.le_of_ble_eq_true rfl) (fun X hg C hR E => ?_)
  subst hg
  have hE : wkExt S S := wkExt.rf
  have hd : 1 ≤ 1 := Nat.le_refl _
  show wkGo l X 5 0 0 0 S [some (.ref l0A), some (.ref l1A), none, none, none] []
  have ih := tX6_loadNodes_go (F := F) C hR hd E F
  have h : rX6_loadNodes_s F (rX6_loadNodes_go F F) l0A l1A S Φ := h
  unfold rX6_loadNodes_s at h
  refine wk_aload_n C dX6_loadNodes_0 rfl rfl ?_
  refine wk_aload_n C dX6_loadNodes_1 rfl rfl ?_
  refine wk_get C (v := .int (gEntry_size S l1A)) huX6_loadNodes_3 hl1A.1 (fun cy => wAt_3 cy _ hl1A.2) rfl 1 (by decide) (List.mem_of_getElem? (i := 10) rfl) rfl rfl dX6_loadNodes_2 ?_
  obtain ⟨S57, eS57, h⟩ := wkLt_some h
  refine wk_put C (S' := S57) huX6_loadNodes_6 hl0A.1 (fun cy => wAt_6 cy _ hl0A.2) rfl 7 (by decide) (List.mem_of_getElem? (i := 1) rfl) rfl tyX6_ok nmX6 rfl (ty := .int) rfl rfl rfl (by show 7 < 8; decide) (fun cy b => by rw [eS57]; exact wSt_6_7 cy _ hl0A.2 _ b) (by rw [eS57]) dX6_loadNodes_5 ?_
  have hWS57 : wkWF S57 := by rw [eS57]; exact hW
  have hXS57 : wkExt S S57 := by rw [eS57]; exact wkExt.rf
  refine wk_iconst C (v := 0) dX6_loadNodes_8 (by decide) ?_
  refine wk_istore_n C (lv' := [some (.ref l0A), some (.ref l1A), some (.int (0 : Int32)), none, none]) dX6_loadNodes_9 rfl (by decide) rfl ?_
  exact wk_forget (lv' := [some (.ref l0A), some (.ref l1A), some (.int (0 : Int32)), none, none]) (wkLs.le ⟨rfl, rfl, rfl, trivial⟩) (ih.1 _ _ _ _ hWS57 (wkExt.tr hE hXS57) (hXS57 _ _ hl0A) (hXS57 _ _ hl1A) h)
