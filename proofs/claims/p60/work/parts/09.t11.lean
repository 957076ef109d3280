def wvX6_lettersAt : List Cond := .code yX6_lettersAt cX6_lettersAt 3 (some .int) :: (([.fieldLink RX6 21 "Witnessworks$Machines" "letters" "[I"] : List Cond) ++ ((wsX60) ++ ([])))
theorem huX6_lettersAt_6 : ∀ w ∈ u_ws RX6 TX6 8, w ∈ wvX6_lettersAt := fun w h => List.mem_cons_of_mem _ (List.mem_append_right _ (List.mem_append_left _ h))
theorem gdX6_lettersAt : ∀ w ∈ wvX6_lettersAt, wkGd w := wkGdC rfl (wkGdA (wkGdL (by decide +kernel)) (wkGdA gdX6 (fun _ h => absurd h List.not_mem_nil)))
def rX6_lettersAt (F : Nat) (l0A : Nat) (l1I : Int32) (l2I : Int32) (S : wPS) (Φ : (Int32 → wPS → Prop)) : Prop :=
  ¬ (((l1I * (8 : Int32)) + l2I) < 0 ∨ S.len (wkAd (gMachines_letters S l0A)) ≤ (((l1I * (8 : Int32)) + l2I)).toNatClampNeg) ∧ Φ (S.rI (wkAd (gMachines_letters S l0A)) (((l1I * (8 : Int32)) + l2I)).toNatClampNeg) S
set_option maxHeartbeats 4000000 in
set_option maxRecDepth 100000 in
theorem tX6_lettersAt {l : Launch} {g : wkG} {F : Nat}  {S : wPS} {l0A : Nat} {l1I : Int32} {l2I : Int32} {Φ : (Int32 → wPS → Prop)} (hW : wkWF S) (hl0A : wkIs S l0A 6) (h : rX6_lettersAt F l0A l1I l2I S Φ) : wkMet l g yX6_lettersAt wvX6_lettersAt 0 0 0 [.ref l0A, .int l1I, .int l2I] S (fun v' S'' => ∃ v : Int32, v' = some (.int v) ∧ Φ v S'' ∧ wkWF S'' ∧ wkExt S S'') := by
  refine wkMet_of (ret := (some .int)) (by decide) rfl (Nat.le_of_ble_eq_true rfl) (fun X hg C hR E => ?_)
  subst hg
  have hE : wkExt S S := wkExt.rf
  have hd : 0 ≤ 0 := Nat.le_refl _
  show wkGo l X 3 0 0 0 S [some (.ref l0A), some (.int l1I), some (.int l2I)] []
  unfold rX6_lettersAt at h
  refine wk_aload_n C dX6_lettersAt_0 rfl rfl ?_
  refine wk_get C huX6_lettersAt_6 hl0A.1 (fun cy => wAt_6 cy _ hl0A.2) rfl 3 (by decide) (List.mem_of_getElem? (i := 1) rfl) rfl (congrArg some (congrArg va_rf (wf_Machines_letters hW hl0A).1)) dX6_lettersAt_1 ?_
  refine wk_iload_n C dX6_lettersAt_4 rfl rfl ?_
  refine wk_bipush C (v := 8) dX6_lettersAt_5 (by decide) ?_
  refine wk_imul C dX6_lettersAt_7 rfl ?_
  refine wk_iload_n C dX6_lettersAt_8 rfl rfl ?_
  refine wk_iadd C dX6_lettersAt_9 rfl ?_
  obtain ⟨i1, h⟩ := h
  refine wk_iald C (wf_Machines_letters hW hl0A).2.1 (wf_Machines_letters hW hl0A).2.2 i1 rfl dX6_lettersAt_10 ?_
  exact E _ _ _ _ _ _ (Nat.le_refl 0) (Nat.le_refl 0) dX6_lettersAt_11 ⟨(S.rI (wkAd (gMachines_letters S l0A)) (((l1I * (8 : Int32)) + l2I)).toNatClampNeg), rfl, h, hW, hE⟩
def wvX6_isToldBy : List Cond := .code yX6_isToldBy cX6_isToldBy 4 (some .boolean) :: (([.fieldLink RX6 11 "Witnessworks$Machines" "byZero" "[I", .methodLink RX6 51 yX6_lettersAt, .instanceMethod yX6_lettersAt, .selects RX6 yX6_lettersAt yX6_lettersAt, .initialized RX6, .fieldLink RX6 15 "Witnessworks$Machines" "byOne" "[I", .fieldLink RX6 18 "Witnessworks$Machines" "finals" "[I"] : List Cond) ++ ((wsX60) ++ (wvX6_lettersAt)))
theorem huX6_isToldBy_6 : ∀ w ∈ u_ws RX6 TX6 8, w ∈ wvX6_isToldBy := fun w h => List.mem_cons_of_mem _ (List.mem_append_right _ (List.mem_append_left _ h))
theorem hbX6_isToldBy_X6_lettersAt : ∀ w ∈ wvX6_lettersAt, w ∈ wvX6_isToldBy := fun w h => List.mem_cons_of_mem _ (List.mem_append_right _ (List.mem_append_right _ h))
theorem gdX6_isToldBy : ∀ w ∈ wvX6_isToldBy, wkGd w := wkGdC rfl (wkGdA (wkGdL (by decide +kernel)) (wkGdA gdX6 gdX6_lettersAt))
def rX6_isToldBy (F : Nat) (l0A : Nat) (l1I : Int32) (l2I : Int32) (l3I : Int32) (S : wPS) (Φ : (Int32 → wPS → Prop)) : Prop :=
  if l3I = 0 then (¬ (l1I < 0 ∨ S.len (wkAd (gMachines_finals S l0A)) ≤ (l1I).toNatClampNeg) ∧ ¬ (l2I < 0 ∨ S.len (wkAd (gMachines_finals S l0A)) ≤ (l2I).toNatClampNeg) ∧ if (S.rI (wkAd (gMachines_finals S l0A)) (l1I).toNatClampNeg) = (S.rI (wkAd (gMachines_finals S l0A)) (l2I).toNatClampNeg) then (Φ (0 : Int32) S) else (Φ (1 : Int32) S)) else (¬ (l1I < 0 ∨ S.len (wkAd (gMachines_byZero S l0A)) ≤ (l1I).toNatClampNeg) ∧ ¬ (l2I < 0 ∨ S.len (wkAd (gMachines_byZero S l0A)) ≤ (l2I).toNatClampNeg) ∧ rX6_lettersAt F l0A (S.rI (wkAd (gMachines_byZero S l0A)) (l1I).toNatClampNeg) (S.rI (wkAd (gMachines_byZero S l0A)) (l2I).toNatClampNeg) S fun v4 S5 => if v4 = (l3I - (1 : Int32)) then (Φ (1 : Int32) S5) else (¬ (l1I < 0 ∨ S5.len (wkAd (gMachines_byOne S5 l0A)) ≤ (l1I).toNatClampNeg) ∧ ¬ (l2I < 0 ∨ S5.len (wkAd (gMachines_byOne S5 l0A)) ≤ (l2I).toNatClampNeg) ∧ rX6_lettersAt F l0A (S5.rI (wkAd (gMachines_byOne S5 l0A)) (l1I).toNatClampNeg) (S5.rI (wkAd (gMachines_byOne S5 l0A)) (l2I).toNatClampNeg) S5 fun v12 S13 => if v12 = (l3I - (1 : Int32)) then (Φ (1 : Int32) S13) else (Φ (0 : Int32) S13)))
set_option maxHeartbeats 4000000 in
set_option maxRecDepth 100000 in
theorem tX6_isToldBy {l : Launch} {g : wkG} {F : Nat}  {S : wPS} {l0A : Nat} {l1I : Int32} {l2I : Int32} {l3I : Int32} {Φ : (Int32 → wPS → Prop)} (hW : wkWF S) (hl0A : wkIs S l0A 6) (h : rX6_isToldBy F l0A l1I l2I l3I S Φ) : wkMet l g yX6_isToldBy wvX6_isToldBy 1 0 0 [.ref l0A, .int l1I, .int l2I, .int l3I] S (fun v' S'' => ∃ v : Int32, v' = some (.int v) ∧ Φ v S'' ∧ wkWF S'' ∧ wkExt S S'') := by
  refine wkMet_of (ret := (some .boolean)) (by decide) rfl (Nat.le_of_ble_eq_true rfl) (fun X hg C hR E => ?_)
  subst hg
  have hE : wkExt S S := wkExt.rf
  have hd : 1 ≤ 1 := Nat.le_refl _
  show wkGo l X 4 0 0 0 S [some (.ref l0A), some (.int l1I), some (.int l2I), some (.int l3I)] []
  unfold rX6_isToldBy at h
  refine wk_iload_n C dX6_isToldBy_0 rfl rfl ?_
  refine wk_if_ne C (tgt := 25) dX6_isToldBy_1 (by decide) (fun c1 => ?_) (fun c1 => ?_)
  · rw [if_neg c1] at h
    refine wk_aload_n C dX6_isToldBy_25 rfl rfl ?_
    refine wk_aload_n C dX6_isToldBy_26 rfl rfl ?_
    refine wk_get C huX6_isToldBy_6 hl0A.1 (fun cy => wAt_6 cy _ hl0A.2) rfl 0 (by decide) (List.mem_of_getElem? (i := 1) rfl) rfl (congrArg some (congrArg va_rf (wf_Machines_byZero hW hl0A).1)) dX6_isToldBy_27 ?_
    refine wk_iload_n C dX6_isToldBy_30 rfl rfl ?_
    obtain ⟨i2, h⟩ := h
    refine wk_iald C (wf_Machines_byZero hW hl0A).2.1 (wf_Machines_byZero hW hl0A).2.2 i2 rfl dX6_isToldBy_31 ?_
    refine wk_aload_n C dX6_isToldBy_32 rfl rfl ?_
    refine wk_get C huX6_isToldBy_6 hl0A.1 (fun cy => wAt_6 cy _ hl0A.2) rfl 0 (by decide) (List.mem_of_getElem? (i := 1) rfl) rfl (congrArg some (congrArg va_rf (wf_Machines_byZero hW hl0A).1)) dX6_isToldBy_33 ?_
    refine wk_iload_n C dX6_isToldBy_36 rfl rfl ?_
    obtain ⟨i3, h⟩ := h
    refine wk_iald C (wf_Machines_byZero hW hl0A).2.1 (wf_Machines_byZero hW hl0A).2.2 i3 rfl dX6_isToldBy_37 ?_
    refine wk_callV C hR (As := [.int (S.rI (wkAd (gMachines_byZero S l0A)) (l1I).toNatClampNeg), .int (S.rI (wkAd (gMachines_byZero S l0A)) (l2I).toNatClampNeg)]) (cnt := 2) (tX6_lettersAt (l := l) hW hl0A h) rfl (wkGoodV (List.mem_of_getElem? (i := 2) rfl) (List.mem_of_getElem? (i := 3) rfl) (List.mem_of_getElem? (i := 4) rfl) (List.mem_of_getElem? (i := 5) rfl) hbX6_isToldBy_X6_lettersAt gdX6_lettersAt) (Nat.le_trans (by decide : 0 + 1 ≤ 1) hd) (by decide) hl0A.1 (fun cy => wAt_6 cy _ hl0A.2) rfl ⟨by decide, by decide, by decide +kernel⟩ rfl rfl (Nat.le_of_ble_eq_true rfl) (Nat.le_refl 0) (Nat.le_refl 0) dX6_isToldBy_38 (fun v' S5 hp => ?_)
    obtain ⟨v4, rfl, h, hWS5, hXS5⟩ := hp
    refine wk_iload_n C dX6_isToldBy_41 rfl rfl ?_
    refine wk_iconst C (v := 1) dX6_isToldBy_42 (by decide) ?_
    refine wk_isub C dX6_isToldBy_43 rfl ?_
    refine wk_icmp_eq C (tgt := 69) dX6_isToldBy_44 (by decide) (fun c9 => ?_) (fun c9 => ?_)
    · rw [if_pos c9] at h
      refine wk_iconst C (v := 1) dX6_isToldBy_69 (by decide) ?_
      refine wk_goto C (tgt := 74) dX6_isToldBy_70 (by decide) ?_
      exact E _ _ _ _ _ _ (Nat.le_refl 0) (Nat.le_refl 0) dX6_isToldBy_74 rfl ⟨(1 : Int32), rfl, h, hWS5, (wkExt.tr hE hXS5)⟩
    · rw [if_neg c9] at h
      refine wk_aload_n C dX6_isToldBy_47 rfl rfl ?_
      refine wk_aload_n C dX6_isToldBy_48 rfl rfl ?_
      refine wk_get C huX6_isToldBy_6 (hXS5 _ _ hl0A).1 (fun cy => wAt_6 cy _ (hXS5 _ _ hl0A).2) rfl 1 (by decide) (List.mem_of_getElem? (i := 6) rfl) rfl (congrArg some (congrArg va_rf (wf_Machines_byOne hWS5 (hXS5 _ _ hl0A)).1)) dX6_isToldBy_49 ?_
      refine wk_iload_n C dX6_isToldBy_52 rfl rfl ?_
      obtain ⟨i10, h⟩ := h
      refine wk_iald C (wf_Machines_byOne hWS5 (hXS5 _ _ hl0A)).2.1 (wf_Machines_byOne hWS5 (hXS5 _ _ hl0A)).2.2 i10 rfl dX6_isToldBy_53 ?_
      refine wk_aload_n C dX6_isToldBy_54 rfl rfl ?_
      refine wk_get C huX6_isToldBy_6 (hXS5 _ _ hl0A).1 (fun cy => wAt_6 cy _ (hXS5 _ _ hl0A).2) rfl 1 (by decide) (List.mem_of_getElem? (i := 6) rfl) rfl (congrArg some (congrArg va_rf (wf_Machines_byOne hWS5 (hXS5 _ _ hl0A)).1)) dX6_isToldBy_55 ?_
      refine wk_iload_n C dX6_isToldBy_58 rfl rfl ?_
      obtain ⟨i11, h⟩ := h
      refine wk_iald C (wf_Machines_byOne hWS5 (hXS5 _ _ hl0A)).2.1 (wf_Machines_byOne hWS5 (hXS5 _ _ hl0A)).2.2 i11 rfl dX6_isToldBy_59 ?_
      refine wk_callV C hR (As := [.int (S5.rI (wkAd (gMachines_byOne S5 l0A)) (l1I).toNatClampNeg), .int (S5.rI (wkAd (gMachines_byOne S5 l0A)) (l2I).toNatClampNeg)]) (cnt := 2) (tX6_lettersAt (l := l) hWS5 (hXS5 _ _ hl0A) h) rfl (wkGoodV (List.mem_of_getElem? (i := 2) rfl) (List.mem_of_getElem? (i := 3) rfl) (List.mem_of_getElem? (i := 4) rfl) (List.mem_of_getElem? (i := 5) rfl) hbX6_isToldBy_X6_lettersAt gdX6_lettersAt) (Nat.le_trans (by decide : 0 + 1 ≤ 1) hd) (by decide) (hXS5 _ _ hl0A).1 (fun cy => wAt_6 cy _ (hXS5 _ _ hl0A).2) rfl ⟨by decide, by decide, by decide +kernel⟩ rfl rfl (Nat.le_of_ble_eq_true rfl) (Nat.le_refl 0) (Nat.le_refl 0) dX6_isToldBy_60 (fun v' S13 hp => ?_)
      obtain ⟨v12, rfl, h, hWS13, hXS13⟩ := hp
      refine wk_iload_n C dX6_isToldBy_63 rfl rfl ?_
      refine wk_iconst C (v := 1) dX6_isToldBy_64 (by decide) ?_
      refine wk_isub C dX6_isToldBy_65 rfl ?_
      refine wk_icmp_ne C (tgt := 73) dX6_isToldBy_66 (by decide) (fun c17 => ?_) (fun c17 => ?_)
      · rw [if_neg c17] at h
        refine wk_iconst C (v := 0) dX6_isToldBy_73 (by decide) ?_
        exact E _ _ _ _ _ _ (Nat.le_refl 0) (Nat.le_refl 0) dX6_isToldBy_74 rfl ⟨(0 : Int32), rfl, h, hWS13, (wkExt.tr (wkExt.tr hE hXS5) hXS13)⟩
      · rw [if_pos c17] at h
        refine wk_iconst C (v := 1) dX6_isToldBy_69 (by decide) ?_
        refine wk_goto C (tgt := 74) dX6_isToldBy_70 (by decide) ?_
        exact E _ _ _ _ _ _ (Nat.le_refl 0) (Nat.le_refl 0) dX6_isToldBy_74 rfl ⟨(1 : Int32), rfl, h, hWS13, (wkExt.tr (wkExt.tr hE hXS5) hXS13)⟩
  · rw [if_pos c1] at h
    refine wk_aload_n C dX6_isToldBy_4 rfl rfl ?_
    refine wk_get C huX6_isToldBy_6 hl0A.1 (fun cy => wAt_6 cy _ hl0A.2) rfl 2 (by decide) (List.mem_of_getElem? (i := 7) rfl) rfl (congrArg some (congrArg va_rf (wf_Machines_finals hW hl0A).1)) dX6_isToldBy_5 ?_
    refine wk_iload_n C dX6_isToldBy_8 rfl rfl ?_
    obtain ⟨i18, h⟩ := h
    refine wk_iald C (wf_Machines_finals hW hl0A).2.1 (wf_Machines_finals hW hl0A).2.2 i18 rfl dX6_isToldBy_9 ?_
    refine wk_aload_n C dX6_isToldBy_10 rfl rfl ?_
    refine wk_get C huX6_isToldBy_6 hl0A.1 (fun cy => wAt_6 cy _ hl0A.2) rfl 2 (by decide) (List.mem_of_getElem? (i := 7) rfl) rfl (congrArg some (congrArg va_rf (wf_Machines_finals hW hl0A).1)) dX6_isToldBy_11 ?_
    refine wk_iload_n C dX6_isToldBy_14 rfl rfl ?_
    obtain ⟨i19, h⟩ := h
    refine wk_iald C (wf_Machines_finals hW hl0A).2.1 (wf_Machines_finals hW hl0A).2.2 i19 rfl dX6_isToldBy_15 ?_
    refine wk_icmp_eq C (tgt := 23) dX6_isToldBy_16 (by decide) (fun c20 => ?_) (fun c20 => ?_)
    · rw [if_pos c20] at h
      refine wk_iconst C (v := 0) dX6_isToldBy_23 (by decide) ?_
      exact E _ _ _ _ _ _ (Nat.le_refl 0) (Nat.le_refl 0) dX6_isToldBy_24 rfl ⟨(0 : Int32), rfl, h, hW, hE⟩
    · rw [if_neg c20] at h
      refine wk_iconst C (v := 1) dX6_isToldBy_19 (by decide) ?_
      refine wk_goto C (tgt := 24) dX6_isToldBy_20 (by decide) ?_
      exact E _ _ _ _ _ _ (Nat.le_refl 0) (Nat.le_refl 0) dX6_isToldBy_24 rfl ⟨(1 : Int32), rfl, h, hW, hE⟩
def wvX6_lowestLike : List Cond := .code yX6_lowestLike cX6_lowestLike 3 (some .int) :: (([.methodLink RX6 51 yX6_lettersAt, .instanceMethod yX6_lettersAt, .selects RX6 yX6_lettersAt yX6_lettersAt, .initialized RX6] : List Cond) ++ (([]) ++ (wvX6_lettersAt)))
theorem hbX6_lowestLike_X6_lettersAt : ∀ w ∈ wvX6_lettersAt, w ∈ wvX6_lowestLike := fun w h => List.mem_cons_of_mem _ (List.mem_append_right _ (List.mem_append_right _ h))
theorem gdX6_lowestLike : ∀ w ∈ wvX6_lowestLike, wkGd w := wkGdC rfl (wkGdA (wkGdL (by decide +kernel)) (wkGdA (fun _ h => absurd h List.not_mem_nil) gdX6_lettersAt))
def rX6_lowestLike_b0 (F : Nat) (rec : Nat → Nat → Int32 → Int32 → wPS → (Int32 → wPS → Prop) → Prop) (l0A : Nat) (l1I : Int32) (l2I : Int32) (S : wPS) (Φ : (Int32 → wPS → Prop)) : Prop :=
  if l1I ≤ l2I then (Φ l1I S) else (rX6_lettersAt F l0A l2I l1I S fun v2 S3 => if 0 ≤ v2 then (wkLt (l2I + (1 : Int32)) fun x8 => rec 0 l0A l1I x8 S3 Φ) else (Φ l2I S3))
def rX6_lowestLike_go (F : Nat) : Nat → Nat → Nat → Int32 → Int32 → wPS → (Int32 → wPS → Prop) → Prop
  | 0, _, _, _, _, _, _ => False
  | k' + 1, lab, l0A, l1I, l2I, S, Φ => if lab = 0 then rX6_lowestLike_b0 F (rX6_lowestLike_go F k') l0A l1I l2I S Φ else False
def rX6_lowestLike_s (F : Nat) (rec : Nat → Nat → Int32 → Int32 → wPS → (Int32 → wPS → Prop) → Prop) (l0A : Nat) (l1I : Int32) (S : wPS) (Φ : (Int32 → wPS → Prop)) : Prop :=
  rec 0 l0A l1I (0 : Int32) S Φ
def rX6_lowestLike (F : Nat) (l0A : Nat) (l1I : Int32) (S : wPS) (Φ : (Int32 → wPS → Prop)) : Prop := rX6_lowestLike_s F (rX6_lowestLike_go F F) l0A l1I S Φ
set_option maxHeartbeats 4000000 in
set_option maxRecDepth 100000 in
theorem tX6_lowestLike_go {l : Launch} {X : wkX} {d F : Nat} {S0 : wPS} {Φ : (Int32 → wPS → Prop)} (C : wkC X cX6_lowestLike RX6 3 wvX6_lowestLike) (hR : wkRm X d 0 0) (hd : 1 ≤ d) (E : wkEnd l X cX6_lowestLike 3 (some .int) 0 0 (fun v' S'' => ∃ v : Int32, v' = some (.int v) ∧ Φ v S'' ∧ wkWF S'' ∧ wkExt S0 S'')) : ∀ k' : Nat, (∀ (l0A : Nat) (l1I : Int32) (l2I : Int32) (S : wPS), wkWF S → wkExt S0 S → wkIs S l0A 6 → rX6_lowestLike_go F k' 0 l0A l1I l2I S Φ → wkGo l X 3 0 0 2 S [some (.ref l0A), some (.int l1I), some (.int l2I)] []) := by
  intro k'
  induction k' with
  | zero => exact fun l0A l1I l2I S hW hE hl0A h => h.elim
  | succ k' ih =>
    · intro l0A l1I l2I S hW hE hl0A h
      have h : rX6_lowestLike_b0 F (rX6_lowestLike_go F k') l0A l1I l2I S Φ := by
        rw [rX6_lowestLike_go, if_pos (rfl : (0 : Nat) = 0)] at h
        exact h
      unfold rX6_lowestLike_b0 at h
      refine wk_iload_n C dX6_lowestLike_2 rfl rfl ?_
      refine wk_iload_n C dX6_lowestLike_3 rfl rfl ?_
      refine wk_icmp_ge C (tgt := 24) dX6_lowestLike_4 (by decide) (fun c1 => ?_) (fun c1 => ?_)
      · rw [if_pos c1] at h
        refine wk_iload_n C dX6_lowestLike_24 rfl rfl ?_
        exact E _ _ _ _ _ _ (Nat.le_refl 0) (Nat.le_refl 0) dX6_lowestLike_25 ⟨l1I, rfl, h, hW, hE⟩
      · rw [if_neg c1] at h
        refine wk_aload_n C dX6_lowestLike_7 rfl rfl ?_
        refine wk_iload_n C dX6_lowestLike_8 rfl rfl ?_
        refine wk_iload_n C dX6_lowestLike_9 rfl rfl ?_
        refine wk_callV C hR (As := [.int l2I, .int l1I]) (cnt := 2) (tX6_lettersAt (l := l) hW hl0A h) rfl (wkGoodV (List.mem_of_getElem? (i := 1) rfl) (List.mem_of_getElem? (i := 2) rfl) (List.mem_of_getElem? (i := 3) rfl) (List.mem_of_getElem? (i := 4) rfl) hbX6_lowestLike_X6_lettersAt gdX6_lettersAt) (Nat.le_trans (by decide : 0 + 1 ≤ 1) hd) (by decide) hl0A.1 (fun cy => wAt_6 cy _ hl0A.2) rfl ⟨by decide, by decide, by decide +kernel⟩ rfl rfl (Nat.le_of_ble_eq_true rfl) (Nat.le_refl 0) (Nat.le_refl 0) dX6_lowestLike_10 (fun v' S3 hp => ?_)
        obtain ⟨v2, rfl, h, hWS3, hXS3⟩ := hp
        refine wk_if_ge C (tgt := 18) dX6_lowestLike_13 (by decide) (fun c7 => ?_) (fun c7 => ?_)
        · rw [if_pos c7] at h
          obtain ⟨x8, ex8, h⟩ := wkLt_some h
          refine wk_iinc C (lv' := [some (.ref l0A), some (.int l1I), some (.int x8)]) dX6_lowestLike_18 rfl (by rw [ex8]; rfl) (by decide) rfl ?_
          refine wk_goto C (tgt := 2) dX6_lowestLike_21 (by decide) ?_
          exact wk_forget (lv' := [some (.ref l0A), some (.int l1I), some (.int x8)]) (wkLs.le ⟨rfl, rfl, rfl, trivial⟩) (ih _ _ _ _ hWS3 (wkExt.tr hE hXS3) (hXS3 _ _ hl0A) h)
        · rw [if_neg c7] at h
          refine wk_iload_n C dX6_lowestLike_16 rfl rfl ?_
          exact E _ _ _ _ _ _ (Nat.le_refl 0) (Nat.le_refl 0) dX6_lowestLike_17 ⟨l2I, rfl, h, hWS3, (wkExt.tr hE hXS3)⟩
set_option maxHeartbeats 4000000 in
set_option maxRecDepth 100000 in
theorem tX6_lowestLike {l : Launch} {g : wkG} {F : Nat}  {S : wPS} {l0A : Nat} {l1I : Int32} {Φ : (Int32 → wPS → Prop)} (hW : wkWF S) (hl0A : wkIs S l0A 6) (h : rX6_lowestLike F l0A l1I S Φ) : wkMet l g yX6_lowestLike wvX6_lowestLike 1 0 0 [.ref l0A, .int l1I] S (fun v' S'' => ∃ v : Int32, v' = some (.int v) ∧ Φ v S'' ∧ wkWF S'' ∧ wkExt S S'') := by
  refine wkMet_of (ret := (some .int)) (by decide) rfl (Nat.le_of_ble_eq_true rfl) (fun X hg C hR E => ?_)
  subst hg
  have hE : wkExt S S := wkExt.rf
  have hd : 1 ≤ 1 := Nat.le_refl _
  show wkGo l X 3 0 0 0 S [some (.ref l0A), some (.int l1I), none] []
  have ih := tX6_lowestLike_go (F := F) C hR hd E F
  have h : rX6_lowestLike_s F (rX6_lowestLike_go F F) l0A l1I S Φ := h
  unfold rX6_lowestLike_s at h
  refine wk_iconst C (v := 0) dX6_lowestLike_0 (by decide) ?_
  refine wk_istore_n C (lv' := [some (.ref l0A), some (.int l1I), some (.int (0 : Int32))]) dX6_lowestLike_1 rfl (by decide) rfl ?_
  exact wk_forget (lv' := [some (.ref l0A), some (.int l1I), some (.int (0 : Int32))]) (wkLs.le ⟨rfl, rfl, rfl, trivial⟩) (ih _ _ _ _ hW hE hl0A h)
def wvX6_loadNodes : List Cond := .code yX6_loadNodes cX6_loadNodes 5 none :: (([.fieldLink RX6 43 "Witnessworks$Machines" "size" "I", .fieldLink RX6 74 "Witnessworks$Entry" "itemCount" "I", .fieldLink RX6 24 "Witnessworks$Machines" "owners" "[I", .methodLink RX6 77 yX3_at, .instanceMethod yX3_at, .selects RX3 yX3_at yX3_at, .initialized RX3, .fieldLink RX6 27 "Witnessworks$Machines" "weights" "[I", .fieldLink RX6 30 "Witnessworks$Machines" "ways" "[I", .fieldLink RX6 73 "Witnessworks$Entry" "size" "I"] : List Cond) ++ ((wsX60 ++ (wsX30)) ++ (wvX3_at)))
theorem huX6_loadNodes_6 : ∀ w ∈ u_ws RX6 TX6 8, w ∈ wvX6_loadNodes := fun w h => List.mem_cons_of_mem _ (List.mem_append_right _ (List.mem_append_left _ (List.mem_append_left _ h)))
theorem huX6_loadNodes_3 : ∀ w ∈ u_ws RX3 TX3 17, w ∈ wvX6_loadNodes := fun w h => List.mem_cons_of_mem _ (List.mem_append_right _ (List.mem_append_left _ (List.mem_append_right _ h)))
theorem hbX6_loadNodes_X3_at : ∀ w ∈ wvX3_at, w ∈ wvX6_loadNodes := fun w h => List.mem_cons_of_mem _ (List.mem_append_right _ (List.mem_append_right _ h))
theorem gdX6_loadNodes : ∀ w ∈ wvX6_loadNodes, wkGd w := wkGdC rfl (wkGdA (wkGdL (by decide +kernel)) (wkGdA (wkGdA gdX6 gdX3) gdX3_at))
def rX6_loadNodes_b0 (F : Nat) (rec : Nat → Nat → Nat → Int32 → Int32 → Int32 → Nat → Int32 → Int32 → wPS → (Unit → wPS → Prop) → Prop) (l0A : Nat) (l1A : Nat) (l2I : Int32) (S : wPS) (Φ : (Unit → wPS → Prop)) : Prop :=
  if (gMachines_size S l0A) ≤ l2I then (Φ () S) else (if (gEntry_itemCount S l1A) ≤ l2I then (rec 1 l0A l1A l2I (0 : Int32) 0 (wkAd (gMachines_owners S l0A)) l2I (0 : Int32) S Φ) else (rX3_at F l1A l2I (0 : Int32) S fun v3 S4 => rec 1 l0A l1A l2I (1 : Int32) 0 (wkAd (gMachines_owners S l0A)) l2I v3 S4 Φ))
def rX6_loadNodes_b1 (F : Nat) (rec : Nat → Nat → Nat → Int32 → Int32 → Int32 → Nat → Int32 → Int32 → wPS → (Unit → wPS → Prop) → Prop) (l0A : Nat) (l1A : Nat) (l2I : Int32) (l3I : Int32) (s0A : Nat) (s1I : Int32) (s2I : Int32) (S : wPS) (Φ : (Unit → wPS → Prop)) : Prop :=
  ¬ (s1I < 0 ∨ S.len s0A ≤ (s1I).toNatClampNeg) ∧ wkLt (wuI S s0A s1I s2I) fun S9 => if l3I = 0 then (¬ (l2I < 0 ∨ S9.len (wkAd (gMachines_weights S9 l0A)) ≤ (l2I).toNatClampNeg) ∧ wkLt (wuI S9 (wkAd (gMachines_weights S9 l0A)) l2I (0 : Int32)) fun S12 => if l3I = 0 then (¬ (l2I < 0 ∨ S12.len (wkAd (gMachines_ways S12 l0A)) ≤ (l2I).toNatClampNeg) ∧ wkLt (wuI S12 (wkAd (gMachines_ways S12 l0A)) l2I ((1 : Int32) <<< (l2I &&& 31))) fun S15 => rec 2 l0A l1A l2I l3I (2 : Int32) 0 0 0 S15 Φ) else (¬ (l2I < 0 ∨ S12.len (wkAd (gMachines_ways S12 l0A)) ≤ (l2I).toNatClampNeg) ∧ wkLt (wuI S12 (wkAd (gMachines_ways S12 l0A)) l2I (0 : Int32)) fun S17 => rec 2 l0A l1A l2I l3I (2 : Int32) 0 0 0 S17 Φ)) else (rX3_at F l1A l2I (1 : Int32) S9 fun v18 S19 => ¬ (l2I < 0 ∨ S19.len (wkAd (gMachines_weights S9 l0A)) ≤ (l2I).toNatClampNeg) ∧ wkLt (wuI S19 (wkAd (gMachines_weights S9 l0A)) l2I v18) fun S24 => if l3I = 0 then (¬ (l2I < 0 ∨ S24.len (wkAd (gMachines_ways S24 l0A)) ≤ (l2I).toNatClampNeg) ∧ wkLt (wuI S24 (wkAd (gMachines_ways S24 l0A)) l2I ((1 : Int32) <<< (l2I &&& 31))) fun S27 => rec 2 l0A l1A l2I l3I (2 : Int32) 0 0 0 S27 Φ) else (¬ (l2I < 0 ∨ S24.len (wkAd (gMachines_ways S24 l0A)) ≤ (l2I).toNatClampNeg) ∧ wkLt (wuI S24 (wkAd (gMachines_ways S24 l0A)) l2I (0 : Int32)) fun S29 => rec 2 l0A l1A l2I l3I (2 : Int32) 0 0 0 S29 Φ))
def rX6_loadNodes_b2 (F : Nat) (rec : Nat → Nat → Nat → Int32 → Int32 → Int32 → Nat → Int32 → Int32 → wPS → (Unit → wPS → Prop) → Prop) (l0A : Nat) (l1A : Nat) (l2I : Int32) (l3I : Int32) (l4I : Int32) (S : wPS) (Φ : (Unit → wPS → Prop)) : Prop :=
  if (5 : Int32) ≤ l4I then (wkLt (l2I + (1 : Int32)) fun x31 => rec 0 l0A l1A x31 0 0 0 0 0 S Φ) else (if l3I = 0 then (wkLt (l2I + (1 : Int32)) fun x33 => rec 0 l0A l1A x33 0 0 0 0 0 S Φ) else (rX3_at F l1A l2I l4I S fun v34 S35 => if v34 < 0 then (wkLt (l4I + (1 : Int32)) fun x40 => rec 2 l0A l1A l2I l3I x40 0 0 0 S35 Φ) else (¬ (l2I < 0 ∨ S35.len (wkAd (gMachines_ways S35 l0A)) ≤ (l2I).toNatClampNeg) ∧ rX3_at F l1A l2I l4I S35 fun v42 S43 => ¬ (l2I < 0 ∨ S43.len (wkAd (gMachines_ways S35 l0A)) ≤ (l2I).toNatClampNeg) ∧ wkLt (wuI S43 (wkAd (gMachines_ways S35 l0A)) l2I ((S35.rI (wkAd (gMachines_ways S35 l0A)) (l2I).toNatClampNeg) ||| ((1 : Int32) <<< (v42 &&& 31)))) fun S48 => wkLt (l4I + (1 : Int32)) fun x49 => rec 2 l0A l1A l2I l3I x49 0 0 0 S48 Φ)))
def rX6_loadNodes_go (F : Nat) : Nat → Nat → Nat → Nat → Int32 → Int32 → Int32 → Nat → Int32 → Int32 → wPS → (Unit → wPS → Prop) → Prop
  | 0, _, _, _, _, _, _, _, _, _, _, _ => False
  | k' + 1, lab, l0A, l1A, l2I, l3I, l4I, s0A, s1I, s2I, S, Φ => if lab = 0 then rX6_loadNodes_b0 F (rX6_loadNodes_go F k') l0A l1A l2I S Φ else if lab = 1 then rX6_loadNodes_b1 F (rX6_loadNodes_go F k') l0A l1A l2I l3I s0A s1I s2I S Φ else if lab = 2 then rX6_loadNodes_b2 F (rX6_loadNodes_go F k') l0A l1A l2I l3I l4I S Φ else False
def rX6_loadNodes_s (F : Nat) (rec : Nat → Nat → Nat → Int32 → Int32 → Int32 → Nat → Int32 → Int32 → wPS → (Unit → wPS → Prop) → Prop) (l0A : Nat) (l1A : Nat) (S : wPS) (Φ : (Unit → wPS → Prop)) : Prop :=
  wkLt (wu_Machines_size S l0A (gEntry_size S l1A)) fun S50 => rec 0 l0A l1A (0 : Int32) 0 0 0 0 0 S50 Φ
def rX6_loadNodes (F : Nat) (l0A : Nat) (l1A : Nat) (S : wPS) (Φ : (Unit → wPS → Prop)) : Prop := rX6_loadNodes_s F (rX6_loadNodes_go F F) l0A l1A S Φ
set_option maxHeartbeats 4000000 in
set_option maxRecDepth 100000 in
theorem tX6_loadNodes_go {l : Launch} {X : wkX} {d F : Nat} {S0 : wPS} {Φ : (Unit → wPS → Prop)} (C : wkC X cX6_loadNodes RX6 5 wvX6_loadNodes) (hR : wkRm X d 0 0) (hd : 1 ≤ d) (E : wkEnd l X cX6_loadNodes 5 none 0 0 (fun v' S'' => ∃ v : Unit, v' = none ∧ Φ v S'' ∧ wkWF S'' ∧ wkExt S0 S'')) : ∀ k' : Nat, (∀ (l0A : Nat) (l1A : Nat) (l2I : Int32) (S : wPS), wkWF S → wkExt S0 S → wkIs S l0A 6 → wkIs S l1A 3 → rX6_loadNodes_go F k' 0 l0A l1A l2I 0 0 0 0 0 S Φ → wkGo l X 5 0 0 10 S [some (.ref l0A), some (.ref l1A), some (.int l2I), none, none] []) ∧ (∀ (l0A : Nat) (l1A : Nat) (l2I : Int32) (l3I : Int32) (s0A : Nat) (s1I : Int32) (s2I : Int32) (S : wPS), wkWF S → wkExt S0 S → wkIs S l0A 6 → wkIs S l1A 3 → wkIs S s0A 13 → rX6_loadNodes_go F k' 1 l0A l1A l2I l3I 0 s0A s1I s2I S Φ → wkGo l X 5 0 0 51 S [some (.ref l0A), some (.ref l1A), some (.int l2I), some (.int l3I), none] [.int s2I, .int s1I, .ref s0A]) ∧ (∀ (l0A : Nat) (l1A : Nat) (l2I : Int32) (l3I : Int32) (l4I : Int32) (S : wPS), wkWF S → wkExt S0 S → wkIs S l0A 6 → wkIs S l1A 3 → rX6_loadNodes_go F k' 2 l0A l1A l2I l3I l4I 0 0 0 S Φ → wkGo l X 5 0 0 92 S [some (.ref l0A), some (.ref l1A), some (.int l2I), some (.int l3I), some (.int l4I)] []) := by
  intro k'
  induction k' with
  | zero => exact ⟨fun l0A l1A l2I S hW hE hl0A hl1A h => h.elim, fun l0A l1A l2I l3I s0A s1I s2I S hW hE hl0A hl1A hs0A h => h.elim, fun l0A l1A l2I l3I l4I S hW hE hl0A hl1A h => h.elim⟩
  | succ k' ih =>
    refine ⟨?_, ?_, ?_⟩
    · intro l0A l1A l2I S hW hE hl0A hl1A h
      have h : rX6_loadNodes_b0 F (rX6_loadNodes_go F k') l0A l1A l2I S Φ := by
        rw [rX6_loadNodes_go, if_pos (rfl : (0 : Nat) = 0)] at h
        exact h
      unfold rX6_loadNodes_b0 at h
      refine wk_iload_n C dX6_loadNodes_10 rfl rfl ?_
      refine wk_aload_n C dX6_loadNodes_11 rfl rfl ?_
      refine wk_get C (v := .int (gMachines_size S l0A)) huX6_loadNodes_6 hl0A.1 (fun cy => wAt_6 cy _ hl0A.2) rfl 7 (by decide) (List.mem_of_getElem? (i := 1) rfl) rfl rfl dX6_loadNodes_12 ?_
      refine wk_icmp_ge C (tgt := 142) dX6_loadNodes_15 (by decide) (fun c1 => ?_) (fun c1 => ?_)
      · rw [if_pos c1] at h
        exact E _ _ _ _ _ (Nat.le_refl 0) (Nat.le_refl 0) dX6_loadNodes_142 ⟨(), rfl, h, hW, hE⟩
      · rw [if_neg c1] at h
        refine wk_iload_n C dX6_loadNodes_18 rfl rfl ?_
        refine wk_aload_n C dX6_loadNodes_19 rfl rfl ?_
        refine wk_get C (v := .int (gEntry_itemCount S l1A)) huX6_loadNodes_3 hl1A.1 (fun cy => wAt_3 cy _ hl1A.2) rfl 6 (by decide) (List.mem_of_getElem? (i := 2) rfl) rfl rfl dX6_loadNodes_20 ?_
        refine wk_icmp_ge C (tgt := 30) dX6_loadNodes_23 (by decide) (fun c2 => ?_) (fun c2 => ?_)
        · rw [if_pos c2] at h
          refine wk_iconst C (v := 0) dX6_loadNodes_30 (by decide) ?_
          refine wk_istore_n C (lv' := [some (.ref l0A), some (.ref l1A), some (.int l2I), some (.int (0 : Int32)), none]) dX6_loadNodes_31 rfl (by decide) rfl ?_
          refine wk_aload_n C dX6_loadNodes_32 rfl rfl ?_
          refine wk_get C huX6_loadNodes_6 hl0A.1 (fun cy => wAt_6 cy _ hl0A.2) rfl 4 (by decide) (List.mem_of_getElem? (i := 3) rfl) rfl (congrArg some (congrArg va_rf (wf_Machines_owners hW hl0A).1)) dX6_loadNodes_33 ?_
          refine wk_iload_n C dX6_loadNodes_36 rfl rfl ?_
          refine wk_iload_n C dX6_loadNodes_37 rfl rfl ?_
          refine wk_if_eq C (tgt := 50) dX6_loadNodes_38 (by decide) (fun _ => ?_) (fun c => False.elim (by revert c; decide))
          refine wk_iconst C (v := 0) dX6_loadNodes_50 (by decide) ?_
          exact wk_forget (lv' := [some (.ref l0A), some (.ref l1A), some (.int l2I), some (.int (0 : Int32)), none]) (wkLs.le ⟨rfl, rfl, rfl, rfl, trivial⟩) (ih.2.1 _ _ _ _ _ _ _ _ hW hE hl0A hl1A (wf_Machines_owners hW hl0A).2 h)
        · rw [if_neg c2] at h
          refine wk_iconst C (v := 1) dX6_loadNodes_26 (by decide) ?_
          refine wk_goto C (tgt := 31) dX6_loadNodes_27 (by decide) ?_
          refine wk_istore_n C (lv' := [some (.ref l0A), some (.ref l1A), some (.int l2I), some (.int (1 : Int32)), none]) dX6_loadNodes_31 rfl (by decide) rfl ?_
          refine wk_aload_n C dX6_loadNodes_32 rfl rfl ?_
          refine wk_get C huX6_loadNodes_6 hl0A.1 (fun cy => wAt_6 cy _ hl0A.2) rfl 4 (by decide) (List.mem_of_getElem? (i := 3) rfl) rfl (congrArg some (congrArg va_rf (wf_Machines_owners hW hl0A).1)) dX6_loadNodes_33 ?_
          refine wk_iload_n C dX6_loadNodes_36 rfl rfl ?_
          refine wk_iload_n C dX6_loadNodes_37 rfl rfl ?_
          refine wk_if_eq C (tgt := 50) dX6_loadNodes_38 (by decide) (fun c => False.elim (by revert c; decide)) (fun _ => ?_)
          refine wk_aload_n C dX6_loadNodes_41 rfl rfl ?_
          refine wk_iload_n C dX6_loadNodes_42 rfl rfl ?_
          refine wk_iconst C (v := 0) dX6_loadNodes_43 (by decide) ?_
          refine wk_callV C hR (As := [.int l2I, .int (0 : Int32)]) (cnt := 2) (tX3_at (l := l) hW hl1A h) rfl (wkGoodV (List.mem_of_getElem? (i := 4) rfl) (List.mem_of_getElem? (i := 5) rfl) (List.mem_of_getElem? (i := 6) rfl) (List.mem_of_getElem? (i := 7) rfl) hbX6_loadNodes_X3_at gdX3_at) (Nat.le_trans (by decide : 0 + 1 ≤ 1) hd) (by decide) hl1A.1 (fun cy => wAt_3 cy _ hl1A.2) rfl ⟨by decide, by decide, by decide +kernel⟩ rfl rfl (Nat.le_of_ble_eq_true rfl) (Nat.le_refl 0) (Nat.le_refl 0) dX6_loadNodes_44 (fun v' S4 hp => ?_)
          obtain ⟨v3, rfl, h, hWS4, hXS4⟩ := hp
          refine wk_goto C (tgt := 51) dX6_loadNodes_47 (by decide) ?_
          exact wk_forget (lv' := [some (.ref l0A), some (.ref l1A), some (.int l2I), some (.int (1 : Int32)), none]) (wkLs.le ⟨rfl, rfl, rfl, rfl, trivial⟩) (ih.2.1 _ _ _ _ _ _ _ _ hWS4 (wkExt.tr hE hXS4) (hXS4 _ _ hl0A) (hXS4 _ _ hl1A) (hXS4 _ _ (wf_Machines_owners hW hl0A).2) h)
    · intro l0A l1A l2I l3I s0A s1I s2I S hW hE hl0A hl1A hs0A h
      have h : rX6_loadNodes_b1 F (rX6_loadNodes_go F k') l0A l1A l2I l3I s0A s1I s2I S Φ := by
        rw [rX6_loadNodes_go, if_neg (show ¬ (1 : Nat) = 0 by decide), if_pos (rfl : (1 : Nat) = 1)] at h
        exact h
      unfold rX6_loadNodes_b1 at h
      obtain ⟨i8, h⟩ := h
      obtain ⟨S9, eS9, h⟩ := wkLt_some h
      refine wk_iast C hs0A.1 hs0A.2 i8 eS9.symm dX6_loadNodes_51 ?_
      have hWS9 : wkWF S9 := by rw [eS9]; exact hW
      have hXS9 : wkExt S S9 := by rw [eS9]; exact wkExt.rf
      refine wk_aload_n C dX6_loadNodes_52 rfl rfl ?_
      refine wk_get C huX6_loadNodes_6 (hXS9 _ _ hl0A).1 (fun cy => wAt_6 cy _ (hXS9 _ _ hl0A).2) rfl 5 (by decide) (List.mem_of_getElem? (i := 8) rfl) rfl (congrArg some (congrArg va_rf (wf_Machines_weights hWS9 (hXS9 _ _ hl0A)).1)) dX6_loadNodes_53 ?_
      refine wk_iload_n C dX6_loadNodes_56 rfl rfl ?_
      refine wk_iload_n C dX6_loadNodes_57 rfl rfl ?_
      refine wk_if_eq C (tgt := 70) dX6_loadNodes_58 (by decide) (fun c10 => ?_) (fun c10 => ?_)
      · rw [if_pos c10] at h
        refine wk_iconst C (v := 0) dX6_loadNodes_70 (by decide) ?_
        obtain ⟨i11, h⟩ := h
        obtain ⟨S12, eS12, h⟩ := wkLt_some h
        refine wk_iast C (wf_Machines_weights hWS9 (hXS9 _ _ hl0A)).2.1 (wf_Machines_weights hWS9 (hXS9 _ _ hl0A)).2.2 i11 eS12.symm dX6_loadNodes_71 ?_
        have hWS12 : wkWF S12 := by rw [eS12]; exact hWS9
        have hXS12 : wkExt S9 S12 := by rw [eS12]; exact wkExt.rf
        refine wk_aload_n C dX6_loadNodes_72 rfl rfl ?_
        refine wk_get C huX6_loadNodes_6 (hXS12 _ _ (hXS9 _ _ hl0A)).1 (fun cy => wAt_6 cy _ (hXS12 _ _ (hXS9 _ _ hl0A)).2) rfl 6 (by decide) (List.mem_of_getElem? (i := 9) rfl) rfl (congrArg some (congrArg va_rf (wf_Machines_ways hWS12 (hXS12 _ _ (hXS9 _ _ hl0A))).1)) dX6_loadNodes_73 ?_
        refine wk_iload_n C dX6_loadNodes_76 rfl rfl ?_
        refine wk_iload_n C dX6_loadNodes_77 rfl rfl ?_
        refine wk_if_eq C (tgt := 85) dX6_loadNodes_78 (by decide) (fun c13 => ?_) (fun c13 => ?_)
        · rw [if_pos c13] at h
          refine wk_iconst C (v := 1) dX6_loadNodes_85 (by decide) ?_
          refine wk_iload_n C dX6_loadNodes_86 rfl rfl ?_
          refine wk_ishl C dX6_loadNodes_87 rfl ?_
          obtain ⟨i14, h⟩ := h
          obtain ⟨S15, eS15, h⟩ := wkLt_some h
          refine wk_iast C (wf_Machines_ways hWS12 (hXS12 _ _ (hXS9 _ _ hl0A))).2.1 (wf_Machines_ways hWS12 (hXS12 _ _ (hXS9 _ _ hl0A))).2.2 i14 eS15.symm dX6_loadNodes_88 ?_
          have hWS15 : wkWF S15 := by rw [eS15]; exact hWS12
          have hXS15 : wkExt S12 S15 := by rw [eS15]; exact wkExt.rf
          refine wk_iconst C (v := 2) dX6_loadNodes_89 (by decide) ?_
          refine wk_istore C (lv' := [some (.ref l0A), some (.ref l1A), some (.int l2I), some (.int l3I), some (.int (2 : Int32))]) dX6_loadNodes_90 (by decide) rfl ?_
          exact wk_forget (lv' := [some (.ref l0A), some (.ref l1A), some (.int l2I), some (.int l3I), some (.int (2 : Int32))]) (wkLs.le ⟨rfl, rfl, rfl, rfl, rfl, trivial⟩) (ih.2.2 _ _ _ _ _ _ hWS15 (wkExt.tr (wkExt.tr (wkExt.tr hE hXS9) hXS12) hXS15) (hXS15 _ _ (hXS12 _ _ (hXS9 _ _ hl0A))) (hXS15 _ _ (hXS12 _ _ (hXS9 _ _ hl1A))) h)
        · rw [if_neg c13] at h
          refine wk_iconst C (v := 0) dX6_loadNodes_81 (by decide) ?_
          refine wk_goto C (tgt := 88) dX6_loadNodes_82 (by decide) ?_
          obtain ⟨i16, h⟩ := h
          obtain ⟨S17, eS17, h⟩ := wkLt_some h
          refine wk_iast C (wf_Machines_ways hWS12 (hXS12 _ _ (hXS9 _ _ hl0A))).2.1 (wf_Machines_ways hWS12 (hXS12 _ _ (hXS9 _ _ hl0A))).2.2 i16 eS17.symm dX6_loadNodes_88 ?_
          have hWS17 : wkWF S17 := by rw [eS17]; exact hWS12
          have hXS17 : wkExt S12 S17 := by rw [eS17]; exact wkExt.rf
          refine wk_iconst C (v := 2) dX6_loadNodes_89 (by decide) ?_
          refine wk_istore C (lv' := [some (.ref l0A), some (.ref l1A), some (.int l2I), some (.int l3I), some (.int (2 : Int32))]) dX6_loadNodes_90 (by decide) rfl ?_
          exact wk_forget (lv' := [some (.ref l0A), some (.ref l1A), some (.int l2I), some (.int l3I), some (.int (2 : Int32))]) (wkLs.le ⟨rfl, rfl, rfl, rfl, rfl, trivial⟩) (ih.2.2 _ _ _ _ _ _ hWS17 (wkExt.tr (wkExt.tr (wkExt.tr hE hXS9) hXS12) hXS17) (hXS17 _ _ (hXS12 _ _ (hXS9 _ _ hl0A))) (hXS17 _ _ (hXS12 _ _ (hXS9 _ _ hl1A))) h)
      · rw [if_neg c10] at h
        refine wk_aload_n C dX6_loadNodes_61 rfl rfl ?_
        refine wk_iload_n C dX6_loadNodes_62 rfl rfl ?_
        refine wk_iconst C (v := 1) dX6_loadNodes_63 (by decide) ?_
        refine wk_callV C hR (As := [.int l2I, .int (1 : Int32)]) (cnt := 2) (tX3_at (l := l) hWS9 (hXS9 _ _ hl1A) h) rfl (wkGoodV (List.mem_of_getElem? (i := 4) rfl) (List.mem_of_getElem? (i := 5) rfl) (List.mem_of_getElem? (i := 6) rfl) (List.mem_of_getElem? (i := 7) rfl) hbX6_loadNodes_X3_at gdX3_at) (Nat.le_trans (by decide : 0 + 1 ≤ 1) hd) (by decide) (hXS9 _ _ hl1A).1 (fun cy => wAt_3 cy _ (hXS9 _ _ hl1A).2) rfl ⟨by decide, by decide, by decide +kernel⟩ rfl rfl (Nat.le_of_ble_eq_true rfl) (Nat.le_refl 0) (Nat.le_refl 0) dX6_loadNodes_64 (fun v' S19 hp => ?_)
        obtain ⟨v18, rfl, h, hWS19, hXS19⟩ := hp
        refine wk_goto C (tgt := 71) dX6_loadNodes_67 (by decide) ?_
        obtain ⟨i23, h⟩ := h
        obtain ⟨S24, eS24, h⟩ := wkLt_some h
        refine wk_iast C (hXS19 _ _ (wf_Machines_weights hWS9 (hXS9 _ _ hl0A)).2).1 (hXS19 _ _ (wf_Machines_weights hWS9 (hXS9 _ _ hl0A)).2).2 i23 eS24.symm dX6_loadNodes_71 ?_
        have hWS24 : wkWF S24 := by rw [eS24]; exact hWS19
        have hXS24 : wkExt S19 S24 := by rw [eS24]; exact wkExt.rf
        refine wk_aload_n C dX6_loadNodes_72 rfl rfl ?_
        refine wk_get C huX6_loadNodes_6 (hXS24 _ _ (hXS19 _ _ (hXS9 _ _ hl0A))).1 (fun cy => wAt_6 cy _ (hXS24 _ _ (hXS19 _ _ (hXS9 _ _ hl0A))).2) rfl 6 (by decide) (List.mem_of_getElem? (i := 9) rfl) rfl (congrArg some (congrArg va_rf (wf_Machines_ways hWS24 (hXS24 _ _ (hXS19 _ _ (hXS9 _ _ hl0A)))).1)) dX6_loadNodes_73 ?_
        refine wk_iload_n C dX6_loadNodes_76 rfl rfl ?_
        refine wk_iload_n C dX6_loadNodes_77 rfl rfl ?_
        refine wk_if_eq C (tgt := 85) dX6_loadNodes_78 (by decide) (fun c25 => ?_) (fun c25 => ?_)
        · rw [if_pos c25] at h
          refine wk_iconst C (v := 1) dX6_loadNodes_85 (by decide) ?_
          refine wk_iload_n C dX6_loadNodes_86 rfl rfl ?_
          refine wk_ishl C dX6_loadNodes_87 rfl ?_
          obtain ⟨i26, h⟩ := h
          obtain ⟨S27, eS27, h⟩ := wkLt_some h
          refine wk_iast C (wf_Machines_ways hWS24 (hXS24 _ _ (hXS19 _ _ (hXS9 _ _ hl0A)))).2.1 (wf_Machines_ways hWS24 (hXS24 _ _ (hXS19 _ _ (hXS9 _ _ hl0A)))).2.2 i26 eS27.symm dX6_loadNodes_88 ?_
          have hWS27 : wkWF S27 := by rw [eS27]; exact hWS24
          have hXS27 : wkExt S24 S27 := by rw [eS27]; exact wkExt.rf
          refine wk_iconst C (v := 2) dX6_loadNodes_89 (by decide) ?_
          refine wk_istore C (lv' := [some (.ref l0A), some (.ref l1A), some (.int l2I), some (.int l3I), some (.int (2 : Int32))]) dX6_loadNodes_90 (by decide) rfl ?_
          exact wk_forget (lv' := [some (.ref l0A), some (.ref l1A), some (.int l2I), some (.int l3I), some (.int (2 : Int32))]) (wkLs.le ⟨rfl, rfl, rfl, rfl, rfl, trivial⟩) (ih.2.2 _ _ _ _ _ _ hWS27 (wkExt.tr (wkExt.tr (wkExt.tr (wkExt.tr hE hXS9) hXS19) hXS24) hXS27) (hXS27 _ _ (hXS24 _ _ (hXS19 _ _ (hXS9 _ _ hl0A)))) (hXS27 _ _ (hXS24 _ _ (hXS19 _ _ (hXS9 _ _ hl1A)))) h)
        · rw [if_neg c25] at h
          refine wk_iconst C (v := 0) dX6_loadNodes_81 (by decide) ?_
          refine wk_goto C (tgt := 88) dX6_loadNodes_82 (by decide) ?_
          obtain ⟨i28, h⟩ := h
          obtain ⟨S29, eS29, h⟩ := wkLt_some h
          refine wk_iast C (wf_Machines_ways hWS24 (hXS24 _ _ (hXS19 _ _ (hXS9 _ _ hl0A)))).2.1 (wf_Machines_ways hWS24 (hXS24 _ _ (hXS19 _ _ (hXS9 _ _ hl0A)))).2.2 i28 eS29.symm dX6_loadNodes_88 ?_
          have hWS29 : wkWF S29 := by rw [eS29]; exact hWS24
          have hXS29 : wkExt S24 S29 := by rw [eS29]; exact wkExt.rf
          refine wk_iconst C (v := 2) dX6_loadNodes_89 (by decide) ?_
          refine wk_istore C (lv' := [some (.ref l0A), some (.ref l1A), some (.int l2I), some (.int l3I), some (.int (2 : Int32))]) dX6_loadNodes_90 (by decide) rfl ?_
          exact wk_forget (lv' := [some (.ref l0A), some (.ref l1A), some (.int l2I), some (.int l3I), some (.int (2 : Int32))]) (wkLs.le ⟨rfl, rfl, rfl, rfl, rfl, trivial⟩) (ih.2.2 _ _ _ _ _ _ hWS29 (wkExt.tr (wkExt.tr (wkExt.tr (wkExt.tr hE hXS9) hXS19) hXS24) hXS29) (hXS29 _ _ (hXS24 _ _ (hXS19 _ _ (hXS9 _ _ hl0A)))) (hXS29 _ _ (hXS24 _ _ (hXS19 _ _ (hXS9 _ _ hl1A)))) h)
    · intro l0A l1A l2I l3I l4I S hW hE hl0A hl1A h
      have h : rX6_loadNodes_b2 F (rX6_loadNodes_go F k') l0A l1A l2I l3I l4I S Φ := by
        rw [rX6_loadNodes_go, if_neg (show ¬ (2 : Nat) = 0 by decide), if_neg (show ¬ (2 : Nat) = 1 by decide), if_pos (rfl : (2 : Nat) = 2)] at h
        exact h
      unfold rX6_loadNodes_b2 at h
      refine wk_iload C dX6_loadNodes_92 rfl ?_
      refine wk_iconst C (v := 5) dX6_loadNodes_94 (by decide) ?_
      refine wk_icmp_ge C (tgt := 136) dX6_loadNodes_95 (by decide) (fun c30 => ?_) (fun c30 => ?_)
      · rw [if_pos c30] at h
        obtain ⟨x31, ex31, h⟩ := wkLt_some h
        refine wk_iinc C (lv' := [some (.ref l0A), some (.ref l1A), some (.int x31), some (.int l3I), some (.int l4I)]) dX6_loadNodes_136 rfl (by rw [ex31]; rfl) (by decide) rfl ?_
        refine wk_goto C (tgt := 10) dX6_loadNodes_139 (by decide) ?_
        exact wk_forget (lv' := [some (.ref l0A), some (.ref l1A), some (.int x31), none, none]) (wkLs.le ⟨rfl, rfl, rfl, trivial⟩) (ih.1 _ _ _ _ hW hE hl0A hl1A h)
      · rw [if_neg c30] at h
        refine wk_iload_n C dX6_loadNodes_98 rfl rfl ?_
        refine wk_if_eq C (tgt := 136) dX6_loadNodes_99 (by decide) (fun c32 => ?_) (fun c32 => ?_)
        · rw [if_pos c32] at h
          obtain ⟨x33, ex33, h⟩ := wkLt_some h
          refine wk_iinc C (lv' := [some (.ref l0A), some (.ref l1A), some (.int x33), some (.int l3I), some (.int l4I)]) dX6_loadNodes_136 rfl (by rw [ex33]; rfl) (by decide) rfl ?_
          refine wk_goto C (tgt := 10) dX6_loadNodes_139 (by decide) ?_
          exact wk_forget (lv' := [some (.ref l0A), some (.ref l1A), some (.int x33), none, none]) (wkLs.le ⟨rfl, rfl, rfl, trivial⟩) (ih.1 _ _ _ _ hW hE hl0A hl1A h)
        · rw [if_neg c32] at h
          refine wk_aload_n C dX6_loadNodes_102 rfl rfl ?_
          refine wk_iload_n C dX6_loadNodes_103 rfl rfl ?_
          refine wk_iload C dX6_loadNodes_104 rfl ?_
          refine wk_callV C hR (As := [.int l2I, .int l4I]) (cnt := 2) (tX3_at (l := l) hW hl1A h) rfl (wkGoodV (List.mem_of_getElem? (i := 4) rfl) (List.mem_of_getElem? (i := 5) rfl) (List.mem_of_getElem? (i := 6) rfl) (List.mem_of_getElem? (i := 7) rfl) hbX6_loadNodes_X3_at gdX3_at) (Nat.le_trans (by decide : 0 + 1 ≤ 1) hd) (by decide) hl1A.1 (fun cy => wAt_3 cy _ hl1A.2) rfl ⟨by decide, by decide, by decide +kernel⟩ rfl rfl (Nat.le_of_ble_eq_true rfl) (Nat.le_refl 0) (Nat.le_refl 0) dX6_loadNodes_106 (fun v' S35 hp => ?_)
          obtain ⟨v34, rfl, h, hWS35, hXS35⟩ := hp
          refine wk_if_lt C (tgt := 130) dX6_loadNodes_109 (by decide) (fun c39 => ?_) (fun c39 => ?_)
          · rw [if_pos c39] at h
            obtain ⟨x40, ex40, h⟩ := wkLt_some h
            refine wk_iinc C (lv' := [some (.ref l0A), some (.ref l1A), some (.int l2I), some (.int l3I), some (.int x40)]) dX6_loadNodes_130 rfl (by rw [ex40]; rfl) (by decide) rfl ?_
            refine wk_goto C (tgt := 92) dX6_loadNodes_133 (by decide) ?_
            exact wk_forget (lv' := [some (.ref l0A), some (.ref l1A), some (.int l2I), some (.int l3I), some (.int x40)]) (wkLs.le ⟨rfl, rfl, rfl, rfl, rfl, trivial⟩) (ih.2.2 _ _ _ _ _ _ hWS35 (wkExt.tr hE hXS35) (hXS35 _ _ hl0A) (hXS35 _ _ hl1A) h)
          · rw [if_neg c39] at h
            refine wk_aload_n C dX6_loadNodes_112 rfl rfl ?_
            refine wk_get C huX6_loadNodes_6 (hXS35 _ _ hl0A).1 (fun cy => wAt_6 cy _ (hXS35 _ _ hl0A).2) rfl 6 (by decide) (List.mem_of_getElem? (i := 9) rfl) rfl (congrArg some (congrArg va_rf (wf_Machines_ways hWS35 (hXS35 _ _ hl0A)).1)) dX6_loadNodes_113 ?_
            refine wk_iload_n C dX6_loadNodes_116 rfl rfl ?_
            refine wk_dup2 C dX6_loadNodes_117 rfl rfl ?_
            obtain ⟨i41, h⟩ := h
            refine wk_iald C (wf_Machines_ways hWS35 (hXS35 _ _ hl0A)).2.1 (wf_Machines_ways hWS35 (hXS35 _ _ hl0A)).2.2 i41 rfl dX6_loadNodes_118 ?_
            refine wk_iconst C (v := 1) dX6_loadNodes_119 (by decide) ?_
            refine wk_aload_n C dX6_loadNodes_120 rfl rfl ?_
            refine wk_iload_n C dX6_loadNodes_121 rfl rfl ?_
            refine wk_iload C dX6_loadNodes_122 rfl ?_
            refine wk_callV C hR (As := [.int l2I, .int l4I]) (cnt := 2) (tX3_at (l := l) hWS35 (hXS35 _ _ hl1A) h) rfl (wkGoodV (List.mem_of_getElem? (i := 4) rfl) (List.mem_of_getElem? (i := 5) rfl) (List.mem_of_getElem? (i := 6) rfl) (List.mem_of_getElem? (i := 7) rfl) hbX6_loadNodes_X3_at gdX3_at) (Nat.le_trans (by decide : 0 + 1 ≤ 1) hd) (by decide) (hXS35 _ _ hl1A).1 (fun cy => wAt_3 cy _ (hXS35 _ _ hl1A).2) rfl ⟨by decide, by decide, by decide +kernel⟩ rfl rfl (Nat.le_of_ble_eq_true rfl) (Nat.le_refl 0) (Nat.le_refl 0) dX6_loadNodes_124 (fun v' S43 hp => ?_)
            obtain ⟨v42, rfl, h, hWS43, hXS43⟩ := hp
            refine wk_ishl C dX6_loadNodes_127 rfl ?_
            refine wk_ior C dX6_loadNodes_128 rfl ?_
            obtain ⟨i47, h⟩ := h
            obtain ⟨S48, eS48, h⟩ := wkLt_some h
            refine wk_iast C (hXS43 _ _ (wf_Machines_ways hWS35 (hXS35 _ _ hl0A)).2).1 (hXS43 _ _ (wf_Machines_ways hWS35 (hXS35 _ _ hl0A)).2).2 i47 eS48.symm dX6_loadNodes_129 ?_
            have hWS48 : wkWF S48 := by rw [eS48]; exact hWS43
            have hXS48 : wkExt S43 S48 := by rw [eS48]; exact wkExt.rf
            obtain ⟨x49, ex49, h⟩ := wkLt_some h
            refine wk_iinc C (lv' := [some (.ref l0A), some (.ref l1A), some (.int l2I), some (.int l3I), some (.int x49)]) dX6_loadNodes_130 rfl (by rw [ex49]; rfl) (by decide) rfl ?_
            refine wk_goto C (tgt := 92) dX6_loadNodes_133 (by decide) ?_
            exact wk_forget (lv' := [some (.ref l0A), some (.ref l1A), some (.int l2I), some (.int l3I), some (.int x49)]) (wkLs.le ⟨rfl, rfl, rfl, rfl, rfl, trivial⟩) (ih.2.2 _ _ _ _ _ _ hWS48 (wkExt.tr (wkExt.tr (wkExt.tr hE hXS35) hXS43) hXS48) (hXS48 _ _ (hXS43 _ _ (hXS35 _ _ hl0A))) (hXS48 _ _ (hXS43 _ _ (hXS35 _ _ hl1A))) h)
set_option maxHeartbeats 4000000 in
set_option maxRecDepth 100000 in
theorem tX6_loadNodes {l : Launch} {g : wkG} {F : Nat}  {S : wPS} {l0A : Nat} {l1A : Nat} {Φ : (Unit → wPS → Prop)} (hW : wkWF S) (hl0A : wkIs S l0A 6) (hl1A : wkIs S l1A 3) (h : rX6_loadNodes F l0A l1A S Φ) : wkMet l g yX6_loadNodes wvX6_loadNodes 1 0 0 [.ref l0A, .ref l1A] S (fun v' S'' => ∃ v : Unit, v' = none ∧ Φ v S'' ∧ wkWF S'' ∧ wkExt S S'') := by
  refine wkMet_of (ret := none) (by decide) rfl (Nat.le_of_ble_eq_true rfl) (fun X hg C hR E => ?_)
  subst hg
  have hE : wkExt S S := wkExt.rf
  have hd : 1 ≤ 1 := Nat.le_refl _
  show wkGo l X 5 0 0 0 S [some (.ref l0A), some (.ref l1A), none, none, none] []
  have ih := tX6_loadNodes_go (F := F) C hR hd E F
  have h : rX6_loadNodes_s F (rX6_loadNodes_go F F) l0A l1A S Φ := h
  unfold rX6_loadNodes_s at h
  refine wk_aload_n C dX6_loadNodes_0 rfl rfl ?_
  refine wk_aload_n C dX6_loadNodes_1 rfl rfl ?_
  refine wk_get C (v := .int (gEntry_size S l1A)) huX6_loadNodes_3 hl1A.1 (fun cy => wAt_3 cy _ hl1A.2) rfl 1 (by decide) (List.mem_of_getElem? (i := 10) rfl) rfl rfl dX6_loadNodes_2 ?_
  obtain ⟨S50, eS50, h⟩ := wkLt_some h
  refine wk_put C (S' := S50) huX6_loadNodes_6 hl0A.1 (fun cy => wAt_6 cy _ hl0A.2) rfl 7 (by decide) (List.mem_of_getElem? (i := 1) rfl) rfl tyX6_ok nmX6 rfl (ty := .int) rfl rfl rfl (by show 7 < 8; decide) (fun cy b => by rw [eS50]; exact wSt_6_7 cy _ hl0A.2 _ b) (by rw [eS50]) dX6_loadNodes_5 ?_
  have hWS50 : wkWF S50 := by rw [eS50]; exact hW
  have hXS50 : wkExt S S50 := by rw [eS50]; exact wkExt.rf
  refine wk_iconst C (v := 0) dX6_loadNodes_8 (by decide) ?_
  refine wk_istore_n C (lv' := [some (.ref l0A), some (.ref l1A), some (.int (0 : Int32)), none, none]) dX6_loadNodes_9 rfl (by decide) rfl ?_
  exact wk_forget (lv' := [some (.ref l0A), some (.ref l1A), some (.int (0 : Int32)), none, none]) (wkLs.le ⟨rfl, rfl, rfl, trivial⟩) (ih.1 _ _ _ _ hWS50 (wkExt.tr hE hXS50) (hXS50 _ _ hl0A) (hXS50 _ _ hl1A) h)
