def wvX11_removeClaim : List Cond := .code yX11_removeClaim cX11_removeClaim 4 none :: (([.fieldLink RX11 395 "Witnessworks" "claimCount" "I", .fieldLink RX11 56 "Witnessworks" "claims" "[LWitnessworks$Claim;"] : List Cond) ++ ((wsX110) ++ ([])))
theorem huX11_removeClaim_11 : ∀ w ∈ u_ws RX11 TX11 19, w ∈ wvX11_removeClaim := fun w h => List.mem_cons_of_mem _ (List.mem_append_right _ (List.mem_append_left _ h))
theorem gdX11_removeClaim : ∀ w ∈ wvX11_removeClaim, wkGd w := wkGdC rfl (wkGdA (wkGdL (by decide +kernel)) (wkGdA gdX11 (fun _ h => absurd h List.not_mem_nil)))
def rX11_removeClaim_b0 (F : Nat) (rec : Nat → Nat → Nat → Int32 → wPS → (Unit → wPS → Prop) → Prop) (l0A : Nat) (l2A : Nat) (l3I : Int32) (S : wPS) (Φ : (Unit → wPS → Prop)) : Prop :=
  if ((gWitnessworks_claimCount S l0A) - (1 : Int32)) ≤ l3I then (wkLt (wu_Witnessworks_claimCount S l0A ((gWitnessworks_claimCount S l0A) - (1 : Int32))) fun S2 => ¬ ((gWitnessworks_claimCount S2 l0A) < 0 ∨ S2.len (wkAd (gWitnessworks_claims S2 l0A)) ≤ ((gWitnessworks_claimCount S2 l0A)).toNatClampNeg) ∧ wkLt (wuRef S2 (wkAd (gWitnessworks_claims S2 l0A)) (gWitnessworks_claimCount S2 l0A) l2A) fun S4 => Φ () S4) else (¬ ((l3I + (1 : Int32)) < 0 ∨ S.len (wkAd (gWitnessworks_claims S l0A)) ≤ ((l3I + (1 : Int32))).toNatClampNeg) ∧ ¬ (l3I < 0 ∨ S.len (wkAd (gWitnessworks_claims S l0A)) ≤ (l3I).toNatClampNeg) ∧ wkLt (wuRef S (wkAd (gWitnessworks_claims S l0A)) l3I (wkAd (S.rA (wkAd (gWitnessworks_claims S l0A)) ((l3I + (1 : Int32))).toNatClampNeg))) fun S8 => wkLt (l3I + (1 : Int32)) fun x9 => rec 0 l0A l2A x9 S8 Φ)
def rX11_removeClaim_go (F : Nat) : Nat → Nat → Nat → Nat → Int32 → wPS → (Unit → wPS → Prop) → Prop
  | 0, _, _, _, _, _, _ => False
  | k' + 1, lab, l0A, l2A, l3I, S, Φ => if lab = 0 then rX11_removeClaim_b0 F (rX11_removeClaim_go F k') l0A l2A l3I S Φ else False
def rX11_removeClaim_s (F : Nat) (rec : Nat → Nat → Nat → Int32 → wPS → (Unit → wPS → Prop) → Prop) (l0A : Nat) (l1I : Int32) (S : wPS) (Φ : (Unit → wPS → Prop)) : Prop :=
  ¬ (l1I < 0 ∨ S.len (wkAd (gWitnessworks_claims S l0A)) ≤ (l1I).toNatClampNeg) ∧ rec 0 l0A (wkAd (S.rA (wkAd (gWitnessworks_claims S l0A)) (l1I).toNatClampNeg)) l1I S Φ
def rX11_removeClaim (F : Nat) (l0A : Nat) (l1I : Int32) (S : wPS) (Φ : (Unit → wPS → Prop)) : Prop := rX11_removeClaim_s F (rX11_removeClaim_go F F) l0A l1I S Φ
set_option maxHeartbeats 4000000 in
set_option maxRecDepth 100000 in
theorem tX11_removeClaim_go {l : Launch} {X : wkX} {d F : Nat} {S0 : wPS} {Φ : (Unit → wPS → Prop)} (C : wkC X cX11_removeClaim RX11 4 wvX11_removeClaim) (hR : wkRm X d 0 0) (hd : 0 ≤ d) (E : wkEnd l X cX11_removeClaim 4 none 0 0 (fun v' S'' => ∃ v : Unit, v' = none ∧ Φ v S'' ∧ wkWF S'' ∧ wkExt S0 S'')) : ∀ k' : Nat, (∀ (l0A : Nat) (l2A : Nat) (l3I : Int32) (S : wPS), wkWF S → wkExt S0 S → wkIs S l0A 11 → wkIs S l2A 0 → rX11_removeClaim_go F k' 0 l0A l2A l3I S Φ → wkGo l X 4 0 0 9 S [some (.ref l0A), none, some (.ref l2A), some (.int l3I)] []) := by
  intro k'
  induction k' with
  | zero => exact fun l0A l2A l3I S hW hE hl0A hl2A h => h.elim
  | succ k' ih =>
    · intro l0A l2A l3I S hW hE hl0A hl2A h
      have h : rX11_removeClaim_b0 F (rX11_removeClaim_go F k') l0A l2A l3I S Φ := by
        rw [rX11_removeClaim_go, if_pos (rfl : (0 : Nat) = 0)] at h
        exact h
      unfold rX11_removeClaim_b0 at h
      refine wk_iload_n C dX11_removeClaim_9 rfl rfl ?_
      refine wk_aload_n C dX11_removeClaim_10 rfl rfl ?_
      refine wk_get C (v := .int (gWitnessworks_claimCount S l0A)) huX11_removeClaim_11 hl0A.1 (fun cy => wAt_11 cy _ hl0A.2) rfl 15 (by decide) (List.mem_of_getElem? (i := 1) rfl) rfl rfl dX11_removeClaim_11 ?_
      refine wk_iconst C (v := 1) dX11_removeClaim_14 (by decide) ?_
      refine wk_isub C dX11_removeClaim_15 rfl ?_
      refine wk_icmp_ge C (tgt := 39) dX11_removeClaim_16 (by decide) (fun c1 => ?_) (fun c1 => ?_)
      · rw [if_pos c1] at h
        refine wk_aload_n C dX11_removeClaim_39 rfl rfl ?_
        refine wk_dup C dX11_removeClaim_40 rfl ?_
        refine wk_get C (v := .int (gWitnessworks_claimCount S l0A)) huX11_removeClaim_11 hl0A.1 (fun cy => wAt_11 cy _ hl0A.2) rfl 15 (by decide) (List.mem_of_getElem? (i := 1) rfl) rfl rfl dX11_removeClaim_41 ?_
        refine wk_iconst C (v := 1) dX11_removeClaim_44 (by decide) ?_
        refine wk_isub C dX11_removeClaim_45 rfl ?_
        obtain ⟨S2, eS2, h⟩ := wkLt_some h
        refine wk_put C (S' := S2) huX11_removeClaim_11 hl0A.1 (fun cy => wAt_11 cy _ hl0A.2) rfl 15 (by decide) (List.mem_of_getElem? (i := 1) rfl) rfl tyX11_ok nmX11 rfl (ty := .int) rfl rfl rfl (by show 15 < 19; decide) (fun cy b => by rw [eS2]; exact wSt_11_15 cy _ hl0A.2 _ b) (by rw [eS2]) dX11_removeClaim_46 ?_
        have hWS2 : wkWF S2 := by rw [eS2]; exact hW
        have hXS2 : wkExt S S2 := by rw [eS2]; exact wkExt.rf
        refine wk_aload_n C dX11_removeClaim_49 rfl rfl ?_
        refine wk_get C huX11_removeClaim_11 (hXS2 _ _ hl0A).1 (fun cy => wAt_11 cy _ (hXS2 _ _ hl0A).2) rfl 14 (by decide) (List.mem_of_getElem? (i := 2) rfl) rfl (congrArg some (congrArg va_rf (wf_Witnessworks_claims hWS2 (hXS2 _ _ hl0A)).1)) dX11_removeClaim_50 ?_
        refine wk_aload_n C dX11_removeClaim_53 rfl rfl ?_
        refine wk_get C (v := .int (gWitnessworks_claimCount S2 l0A)) huX11_removeClaim_11 (hXS2 _ _ hl0A).1 (fun cy => wAt_11 cy _ (hXS2 _ _ hl0A).2) rfl 15 (by decide) (List.mem_of_getElem? (i := 1) rfl) rfl rfl dX11_removeClaim_54 ?_
        refine wk_aload_n C dX11_removeClaim_57 rfl rfl ?_
        obtain ⟨i3, h⟩ := h
        obtain ⟨S4, eS4, h⟩ := wkLt_some h
        refine wk_aastClaim C (wf_Witnessworks_claims hWS2 (hXS2 _ _ hl0A)).2.1 (wf_Witnessworks_claims hWS2 (hXS2 _ _ hl0A)).2.2 i3 (hXS2 _ _ hl2A).1 (hXS2 _ _ hl2A).2 eS4.symm dX11_removeClaim_58 ?_
        have hWS4 : wkWF S4 := by rw [eS4]; exact wkWF_refClaim hWS2 (wf_Witnessworks_claims hWS2 (hXS2 _ _ hl0A)).2 (hXS2 _ _ hl2A)
        have hXS4 : wkExt S2 S4 := by rw [eS4]; exact wkExt.rf
        exact E _ _ _ _ _ (Nat.le_refl 0) (Nat.le_refl 0) dX11_removeClaim_59 ⟨(), rfl, h, hWS4, (wkExt.tr (wkExt.tr hE hXS2) hXS4)⟩
      · rw [if_neg c1] at h
        refine wk_aload_n C dX11_removeClaim_19 rfl rfl ?_
        refine wk_get C huX11_removeClaim_11 hl0A.1 (fun cy => wAt_11 cy _ hl0A.2) rfl 14 (by decide) (List.mem_of_getElem? (i := 2) rfl) rfl (congrArg some (congrArg va_rf (wf_Witnessworks_claims hW hl0A).1)) dX11_removeClaim_20 ?_
        refine wk_iload_n C dX11_removeClaim_23 rfl rfl ?_
        refine wk_aload_n C dX11_removeClaim_24 rfl rfl ?_
        refine wk_get C huX11_removeClaim_11 hl0A.1 (fun cy => wAt_11 cy _ hl0A.2) rfl 14 (by decide) (List.mem_of_getElem? (i := 2) rfl) rfl (congrArg some (congrArg va_rf (wf_Witnessworks_claims hW hl0A).1)) dX11_removeClaim_25 ?_
        refine wk_iload_n C dX11_removeClaim_28 rfl rfl ?_
        refine wk_iconst C (v := 1) dX11_removeClaim_29 (by decide) ?_
        refine wk_iadd C dX11_removeClaim_30 rfl ?_
        obtain ⟨i5, h⟩ := h
        have w6 := wf_RClaim hW (wf_Witnessworks_claims hW hl0A).2 (Nat.not_le.mp fun q => i5 (Or.inr q))
        refine wk_aaldClaim C (wf_Witnessworks_claims hW hl0A).2.1 (wf_Witnessworks_claims hW hl0A).2.2 i5 w6.1 dX11_removeClaim_31 ?_
        obtain ⟨i7, h⟩ := h
        obtain ⟨S8, eS8, h⟩ := wkLt_some h
        refine wk_aastClaim C (wf_Witnessworks_claims hW hl0A).2.1 (wf_Witnessworks_claims hW hl0A).2.2 i7 w6.2.1 w6.2.2 eS8.symm dX11_removeClaim_32 ?_
        have hWS8 : wkWF S8 := by rw [eS8]; exact wkWF_refClaim hW (wf_Witnessworks_claims hW hl0A).2 w6.2
        have hXS8 : wkExt S S8 := by rw [eS8]; exact wkExt.rf
        obtain ⟨x9, ex9, h⟩ := wkLt_some h
        refine wk_iinc C (lv' := [some (.ref l0A), none, some (.ref l2A), some (.int x9)]) dX11_removeClaim_33 rfl (by rw [ex9]; rfl) (by decide) rfl ?_
        refine wk_goto C (tgt := 9) dX11_removeClaim_36 (by decide) ?_
        exact wk_forget (lv' := [some (.ref l0A), none, some (.ref l2A), some (.int x9)]) (wkLs.le ⟨rfl, rfl, rfl, trivial⟩) (ih _ _ _ _ hWS8 (wkExt.tr hE hXS8) (hXS8 _ _ hl0A) (hXS8 _ _ hl2A) h)
set_option maxHeartbeats 4000000 in
set_option maxRecDepth 100000 in
theorem tX11_removeClaim {l : Launch} {g : wkG} {F : Nat}  {S : wPS} {l0A : Nat} {l1I : Int32} {Φ : (Unit → wPS → Prop)} (hW : wkWF S) (hl0A : wkIs S l0A 11) (h : rX11_removeClaim F l0A l1I S Φ) : wkMet l g yX11_removeClaim wvX11_removeClaim 0 0 0 [.ref l0A, .int l1I] S (fun v' S'' => ∃ v : Unit, v' = none ∧ Φ v S'' ∧ wkWF S'' ∧ wkExt S S'') := by
  refine wkMet_of (ret := none) (by decide) rfl (Nat.le_of_ble_eq_true rfl) (fun X hg C hR E => ?_)
  subst hg
  have hE : wkExt S S := wkExt.rf
  have hd : 0 ≤ 0 := Nat.le_refl _
  show wkGo l X 4 0 0 0 S [some (.ref l0A), some (.int l1I), none, none] []
  have ih := tX11_removeClaim_go (F := F) C hR hd E F
  have h : rX11_removeClaim_s F (rX11_removeClaim_go F F) l0A l1I S Φ := h
  unfold rX11_removeClaim_s at h
  refine wk_aload_n C dX11_removeClaim_0 rfl rfl ?_
  refine wk_get C huX11_removeClaim_11 hl0A.1 (fun cy => wAt_11 cy _ hl0A.2) rfl 14 (by decide) (List.mem_of_getElem? (i := 2) rfl) rfl (congrArg some (congrArg va_rf (wf_Witnessworks_claims hW hl0A).1)) dX11_removeClaim_1 ?_
  refine wk_iload_n C dX11_removeClaim_4 rfl rfl ?_
  obtain ⟨i10, h⟩ := h
  have w11 := wf_RClaim hW (wf_Witnessworks_claims hW hl0A).2 (Nat.not_le.mp fun q => i10 (Or.inr q))
  refine wk_aaldClaim C (wf_Witnessworks_claims hW hl0A).2.1 (wf_Witnessworks_claims hW hl0A).2.2 i10 w11.1 dX11_removeClaim_5 ?_
  refine wk_astore_n C (lv' := [some (.ref l0A), some (.int l1I), some (.ref (wkAd (S.rA (wkAd (gWitnessworks_claims S l0A)) (l1I).toNatClampNeg))), none]) dX11_removeClaim_6 rfl (by decide) rfl ?_
  refine wk_iload_n C dX11_removeClaim_7 rfl rfl ?_
  refine wk_istore_n C (lv' := [some (.ref l0A), some (.int l1I), some (.ref (wkAd (S.rA (wkAd (gWitnessworks_claims S l0A)) (l1I).toNatClampNeg))), some (.int l1I)]) dX11_removeClaim_8 rfl (by decide) rfl ?_
  exact wk_forget (lv' := [some (.ref l0A), none, some (.ref (wkAd (S.rA (wkAd (gWitnessworks_claims S l0A)) (l1I).toNatClampNeg))), some (.int l1I)]) (wkLs.le ⟨rfl, rfl, rfl, trivial⟩) (ih _ _ _ _ hW hE hl0A w11.2 h)
def wvX11_has : List Cond := .code yX11_has cX11_has 2 (some .boolean) :: (([] : List Cond) ++ (([]) ++ ([])))
theorem gdX11_has : ∀ w ∈ wvX11_has, wkGd w := wkGdC rfl (wkGdA (wkGdL (by decide +kernel)) (wkGdA (fun _ h => absurd h List.not_mem_nil) (fun _ h => absurd h List.not_mem_nil)))
def rX11_has (F : Nat) (l0I : Int32) (l1I : Int32) (S : wPS) (Φ : (Int32 → wPS → Prop)) : Prop :=
  if ((l0I >>> (l1I &&& 31)) &&& (1 : Int32)) = 0 then (Φ (0 : Int32) S) else (Φ (1 : Int32) S)
set_option maxHeartbeats 4000000 in
set_option maxRecDepth 100000 in
theorem tX11_has {l : Launch} {g : wkG} {F : Nat}  {S : wPS} {l0I : Int32} {l1I : Int32} {Φ : (Int32 → wPS → Prop)} (hW : wkWF S)  (h : rX11_has F l0I l1I S Φ) : wkMet l g yX11_has wvX11_has 0 0 0 [.int l0I, .int l1I] S (fun v' S'' => ∃ v : Int32, v' = some (.int v) ∧ Φ v S'' ∧ wkWF S'' ∧ wkExt S S'') := by
  refine wkMet_of (ret := (some .boolean)) (by decide) rfl (Nat.le_of_ble_eq_true rfl) (fun X hg C hR E => ?_)
  subst hg
  have hE : wkExt S S := wkExt.rf
  have hd : 0 ≤ 0 := Nat.le_refl _
  show wkGo l X 2 0 0 0 S [some (.int l0I), some (.int l1I)] []
  unfold rX11_has at h
  refine wk_iload_n C dX11_has_0 rfl rfl ?_
  refine wk_iload_n C dX11_has_1 rfl rfl ?_
  refine wk_ishr C dX11_has_2 rfl ?_
  refine wk_iconst C (v := 1) dX11_has_3 (by decide) ?_
  refine wk_iand C dX11_has_4 rfl ?_
  refine wk_if_eq C (tgt := 12) dX11_has_5 (by decide) (fun c1 => ?_) (fun c1 => ?_)
  · rw [if_pos c1] at h
    refine wk_iconst C (v := 0) dX11_has_12 (by decide) ?_
    exact E _ _ _ _ _ _ (Nat.le_refl 0) (Nat.le_refl 0) dX11_has_13 rfl ⟨(0 : Int32), rfl, h, hW, hE⟩
  · rw [if_neg c1] at h
    refine wk_iconst C (v := 1) dX11_has_8 (by decide) ?_
    refine wk_goto C (tgt := 13) dX11_has_9 (by decide) ?_
    exact E _ _ _ _ _ _ (Nat.le_refl 0) (Nat.le_refl 0) dX11_has_13 rfl ⟨(1 : Int32), rfl, h, hW, hE⟩
def wvX11_lowest : List Cond := .code yX11_lowest cX11_lowest 2 (some .int) :: (([.methodLink RX11 525 yX11_has, .static yX11_has, .initialized RX11] : List Cond) ++ (([]) ++ (wvX11_has)))
theorem hbX11_lowest_X11_has : ∀ w ∈ wvX11_has, w ∈ wvX11_lowest := fun w h => List.mem_cons_of_mem _ (List.mem_append_right _ (List.mem_append_right _ h))
theorem gdX11_lowest : ∀ w ∈ wvX11_lowest, wkGd w := wkGdC rfl (wkGdA (wkGdL (by decide +kernel)) (wkGdA (fun _ h => absurd h List.not_mem_nil) gdX11_has))
def rX11_lowest_b0 (F : Nat) (rec : Nat → Int32 → Int32 → wPS → (Int32 → wPS → Prop) → Prop) (l0I : Int32) (l1I : Int32) (S : wPS) (Φ : (Int32 → wPS → Prop)) : Prop :=
  if (31 : Int32) ≤ l1I then (Φ (-1 : Int32) S) else (rX11_has F l0I l1I S fun v2 S3 => if v2 = 0 then (wkLt (l1I + (1 : Int32)) fun x8 => rec 0 l0I x8 S3 Φ) else (Φ l1I S3))
def rX11_lowest_go (F : Nat) : Nat → Nat → Int32 → Int32 → wPS → (Int32 → wPS → Prop) → Prop
  | 0, _, _, _, _, _ => False
  | k' + 1, lab, l0I, l1I, S, Φ => if lab = 0 then rX11_lowest_b0 F (rX11_lowest_go F k') l0I l1I S Φ else False
def rX11_lowest_s (F : Nat) (rec : Nat → Int32 → Int32 → wPS → (Int32 → wPS → Prop) → Prop) (l0I : Int32) (S : wPS) (Φ : (Int32 → wPS → Prop)) : Prop :=
  rec 0 l0I (0 : Int32) S Φ
def rX11_lowest (F : Nat) (l0I : Int32) (S : wPS) (Φ : (Int32 → wPS → Prop)) : Prop := rX11_lowest_s F (rX11_lowest_go F F) l0I S Φ
set_option maxHeartbeats 4000000 in
set_option maxRecDepth 100000 in
theorem tX11_lowest_go {l : Launch} {X : wkX} {d F : Nat} {S0 : wPS} {Φ : (Int32 → wPS → Prop)} (C : wkC X cX11_lowest RX11 2 wvX11_lowest) (hR : wkRm X d 0 0) (hd : 1 ≤ d) (E : wkEnd l X cX11_lowest 2 (some .int) 0 0 (fun v' S'' => ∃ v : Int32, v' = some (.int v) ∧ Φ v S'' ∧ wkWF S'' ∧ wkExt S0 S'')) : ∀ k' : Nat, (∀ (l0I : Int32) (l1I : Int32) (S : wPS), wkWF S → wkExt S0 S → rX11_lowest_go F k' 0 l0I l1I S Φ → wkGo l X 2 0 0 2 S [some (.int l0I), some (.int l1I)] []) := by
  intro k'
  induction k' with
  | zero => exact fun l0I l1I S hW hE  h => h.elim
  | succ k' ih =>
    · intro l0I l1I S hW hE  h
      have h : rX11_lowest_b0 F (rX11_lowest_go F k') l0I l1I S Φ := by
        rw [rX11_lowest_go, if_pos (rfl : (0 : Nat) = 0)] at h
        exact h
      unfold rX11_lowest_b0 at h
      refine wk_iload_n C dX11_lowest_2 rfl rfl ?_
      refine wk_bipush C (v := 31) dX11_lowest_3 (by decide) ?_
      refine wk_icmp_ge C (tgt := 24) dX11_lowest_5 (by decide) (fun c1 => ?_) (fun c1 => ?_)
      · rw [if_pos c1] at h
        refine wk_iconst C (v := (-1)) dX11_lowest_24 (by decide) ?_
        exact E _ _ _ _ _ _ (Nat.le_refl 0) (Nat.le_refl 0) dX11_lowest_25 ⟨(-1 : Int32), rfl, h, hW, hE⟩
      · rw [if_neg c1] at h
        refine wk_iload_n C dX11_lowest_8 rfl rfl ?_
        refine wk_iload_n C dX11_lowest_9 rfl rfl ?_
        refine wk_callW C hR (As := [.int l0I, .int l1I]) (cnt := 2) (tX11_has (l := l) hW  h) rfl (wkGoodW (List.mem_of_getElem? (i := 1) rfl) (List.mem_of_getElem? (i := 2) rfl) (List.mem_of_getElem? (i := 3) rfl) hbX11_lowest_X11_has gdX11_has) (Nat.le_trans (by decide : 0 + 1 ≤ 1) hd) (by decide) ⟨by decide, by decide, by decide +kernel⟩ rfl rfl (Nat.le_of_ble_eq_true rfl) (Nat.le_refl 0) (Nat.le_refl 0) dX11_lowest_10 (fun v' S3 hp => ?_)
        obtain ⟨v2, rfl, h, hWS3, hXS3⟩ := hp
        refine wk_if_eq C (tgt := 18) dX11_lowest_13 (by decide) (fun c7 => ?_) (fun c7 => ?_)
        · rw [if_pos c7] at h
          obtain ⟨x8, ex8, h⟩ := wkLt_some h
          refine wk_iinc C (lv' := [some (.int l0I), some (.int x8)]) dX11_lowest_18 rfl (by rw [ex8]; rfl) (by decide) rfl ?_
          refine wk_goto C (tgt := 2) dX11_lowest_21 (by decide) ?_
          exact wk_forget (lv' := [some (.int l0I), some (.int x8)]) (wkLs.le ⟨rfl, rfl, trivial⟩) (ih _ _ _ hWS3 (wkExt.tr hE hXS3)  h)
        · rw [if_neg c7] at h
          refine wk_iload_n C dX11_lowest_16 rfl rfl ?_
          exact E _ _ _ _ _ _ (Nat.le_refl 0) (Nat.le_refl 0) dX11_lowest_17 ⟨l1I, rfl, h, hWS3, (wkExt.tr hE hXS3)⟩
set_option maxHeartbeats 4000000 in
set_option maxRecDepth 100000 in
theorem tX11_lowest {l : Launch} {g : wkG} {F : Nat}  {S : wPS} {l0I : Int32} {Φ : (Int32 → wPS → Prop)} (hW : wkWF S)  (h : rX11_lowest F l0I S Φ) : wkMet l g yX11_lowest wvX11_lowest 1 0 0 [.int l0I] S (fun v' S'' => ∃ v : Int32, v' = some (.int v) ∧ Φ v S'' ∧ wkWF S'' ∧ wkExt S S'') := by
  refine wkMet_of (ret := (some .int)) (by decide) rfl (Nat.le_of_ble_eq_true rfl) (fun X hg C hR E => ?_)
  subst hg
  have hE : wkExt S S := wkExt.rf
  have hd : 1 ≤ 1 := Nat.le_refl _
  show wkGo l X 2 0 0 0 S [some (.int l0I), none] []
  have ih := tX11_lowest_go (F := F) C hR hd E F
  have h : rX11_lowest_s F (rX11_lowest_go F F) l0I S Φ := h
  unfold rX11_lowest_s at h
  refine wk_iconst C (v := 0) dX11_lowest_0 (by decide) ?_
  refine wk_istore_n C (lv' := [some (.int l0I), some (.int (0 : Int32))]) dX11_lowest_1 rfl (by decide) rfl ?_
  exact wk_forget (lv' := [some (.int l0I), some (.int (0 : Int32))]) (wkLs.le ⟨rfl, rfl, trivial⟩) (ih _ _ _ hW hE  h)
def wvX11_hangingTogether : List Cond := .code yX11_hangingTogether cX11_hangingTogether 7 (some .int) :: (([] : List Cond) ++ (([]) ++ ([])))
theorem gdX11_hangingTogether : ∀ w ∈ wvX11_hangingTogether, wkGd w := wkGdC rfl (wkGdA (wkGdL (by decide +kernel)) (wkGdA (fun _ h => absurd h List.not_mem_nil) (fun _ h => absurd h List.not_mem_nil)))
def rX11_hangingTogether_b0 (F : Nat) (rec : Nat → Nat → Int32 → Int32 → Int32 → Int32 → Int32 → wPS → (Int32 → wPS → Prop) → Prop) (l0A : Nat) (l2I : Int32) (l3I : Int32) (l4I : Int32) (S : wPS) (Φ : (Int32 → wPS → Prop)) : Prop :=
  if (Int32.ofNat (S.len l0A)) ≤ l4I then (Φ l3I S) else (rec 1 l0A l2I l3I l4I l3I (0 : Int32) S Φ)
def rX11_hangingTogether_b1 (F : Nat) (rec : Nat → Nat → Int32 → Int32 → Int32 → Int32 → Int32 → wPS → (Int32 → wPS → Prop) → Prop) (l0A : Nat) (l2I : Int32) (l3I : Int32) (l4I : Int32) (l5I : Int32) (l6I : Int32) (S : wPS) (Φ : (Int32 → wPS → Prop)) : Prop :=
  if (Int32.ofNat (S.len l0A)) ≤ l6I then (wkLt (l4I + (1 : Int32)) fun x3 => rec 0 l0A l2I l5I x3 0 0 S Φ) else (if ((l3I >>> (l6I &&& 31)) &&& (1 : Int32)) = 0 then (wkLt (l6I + (1 : Int32)) fun x5 => rec 1 l0A l2I l3I l4I l5I x5 S Φ) else (¬ (l6I < 0 ∨ S.len l0A ≤ (l6I).toNatClampNeg) ∧ wkLt ((l5I ||| ((S.rI l0A (l6I).toNatClampNeg) &&& l2I))) fun x7 => wkLt (l6I + (1 : Int32)) fun x8 => rec 1 l0A l2I l3I l4I x7 x8 S Φ))
def rX11_hangingTogether_go (F : Nat) : Nat → Nat → Nat → Int32 → Int32 → Int32 → Int32 → Int32 → wPS → (Int32 → wPS → Prop) → Prop
  | 0, _, _, _, _, _, _, _, _, _ => False
  | k' + 1, lab, l0A, l2I, l3I, l4I, l5I, l6I, S, Φ => if lab = 0 then rX11_hangingTogether_b0 F (rX11_hangingTogether_go F k') l0A l2I l3I l4I S Φ else if lab = 1 then rX11_hangingTogether_b1 F (rX11_hangingTogether_go F k') l0A l2I l3I l4I l5I l6I S Φ else False
def rX11_hangingTogether_s (F : Nat) (rec : Nat → Nat → Int32 → Int32 → Int32 → Int32 → Int32 → wPS → (Int32 → wPS → Prop) → Prop) (l0A : Nat) (l1I : Int32) (l2I : Int32) (S : wPS) (Φ : (Int32 → wPS → Prop)) : Prop :=
  wkLt (((1 : Int32) <<< (l1I &&& 31))) fun x9 => rec 0 l0A l2I x9 (0 : Int32) 0 0 S Φ
def rX11_hangingTogether (F : Nat) (l0A : Nat) (l1I : Int32) (l2I : Int32) (S : wPS) (Φ : (Int32 → wPS → Prop)) : Prop := rX11_hangingTogether_s F (rX11_hangingTogether_go F F) l0A l1I l2I S Φ
set_option maxHeartbeats 4000000 in
set_option maxRecDepth 100000 in
theorem tX11_hangingTogether_go {l : Launch} {X : wkX} {d F : Nat} {S0 : wPS} {Φ : (Int32 → wPS → Prop)} (C : wkC X cX11_hangingTogether RX11 7 wvX11_hangingTogether) (hR : wkRm X d 0 0) (hd : 0 ≤ d) (E : wkEnd l X cX11_hangingTogether 7 (some .int) 0 0 (fun v' S'' => ∃ v : Int32, v' = some (.int v) ∧ Φ v S'' ∧ wkWF S'' ∧ wkExt S0 S'')) : ∀ k' : Nat, (∀ (l0A : Nat) (l2I : Int32) (l3I : Int32) (l4I : Int32) (S : wPS), wkWF S → wkExt S0 S → wkIs S l0A 13 → rX11_hangingTogether_go F k' 0 l0A l2I l3I l4I 0 0 S Φ → wkGo l X 7 0 0 7 S [some (.ref l0A), none, some (.int l2I), some (.int l3I), some (.int l4I), none, none] []) ∧ (∀ (l0A : Nat) (l2I : Int32) (l3I : Int32) (l4I : Int32) (l5I : Int32) (l6I : Int32) (S : wPS), wkWF S → wkExt S0 S → wkIs S l0A 13 → rX11_hangingTogether_go F k' 1 l0A l2I l3I l4I l5I l6I S Φ → wkGo l X 7 0 0 20 S [some (.ref l0A), none, some (.int l2I), some (.int l3I), some (.int l4I), some (.int l5I), some (.int l6I)] []) := by
  intro k'
  induction k' with
  | zero => exact ⟨fun l0A l2I l3I l4I S hW hE hl0A h => h.elim, fun l0A l2I l3I l4I l5I l6I S hW hE hl0A h => h.elim⟩
  | succ k' ih =>
    refine ⟨?_, ?_⟩
    · intro l0A l2I l3I l4I S hW hE hl0A h
      have h : rX11_hangingTogether_b0 F (rX11_hangingTogether_go F k') l0A l2I l3I l4I S Φ := by
        rw [rX11_hangingTogether_go, if_pos (rfl : (0 : Nat) = 0)] at h
        exact h
      unfold rX11_hangingTogether_b0 at h
      refine wk_iload C dX11_hangingTogether_7 rfl ?_
      refine wk_aload_n C dX11_hangingTogether_9 rfl rfl ?_
      refine wk_ilen C hl0A.1 hl0A.2 rfl dX11_hangingTogether_10 ?_
      refine wk_icmp_ge C (tgt := 62) dX11_hangingTogether_11 (by decide) (fun c1 => ?_) (fun c1 => ?_)
      · rw [if_pos c1] at h
        refine wk_iload_n C dX11_hangingTogether_62 rfl rfl ?_
        exact E _ _ _ _ _ _ (Nat.le_refl 0) (Nat.le_refl 0) dX11_hangingTogether_63 ⟨l3I, rfl, h, hW, hE⟩
      · rw [if_neg c1] at h
        refine wk_iload_n C dX11_hangingTogether_14 rfl rfl ?_
        refine wk_istore C (lv' := [some (.ref l0A), none, some (.int l2I), some (.int l3I), some (.int l4I), some (.int l3I), none]) dX11_hangingTogether_15 (by decide) rfl ?_
        refine wk_iconst C (v := 0) dX11_hangingTogether_17 (by decide) ?_
        refine wk_istore C (lv' := [some (.ref l0A), none, some (.int l2I), some (.int l3I), some (.int l4I), some (.int l3I), some (.int (0 : Int32))]) dX11_hangingTogether_18 (by decide) rfl ?_
        exact wk_forget (lv' := [some (.ref l0A), none, some (.int l2I), some (.int l3I), some (.int l4I), some (.int l3I), some (.int (0 : Int32))]) (wkLs.le ⟨rfl, rfl, rfl, rfl, rfl, rfl, trivial⟩) (ih.2 _ _ _ _ _ _ _ hW hE hl0A h)
    · intro l0A l2I l3I l4I l5I l6I S hW hE hl0A h
      have h : rX11_hangingTogether_b1 F (rX11_hangingTogether_go F k') l0A l2I l3I l4I l5I l6I S Φ := by
        rw [rX11_hangingTogether_go, if_neg (show ¬ (1 : Nat) = 0 by decide), if_pos (rfl : (1 : Nat) = 1)] at h
        exact h
      unfold rX11_hangingTogether_b1 at h
      refine wk_iload C dX11_hangingTogether_20 rfl ?_
      refine wk_aload_n C dX11_hangingTogether_22 rfl rfl ?_
      refine wk_ilen C hl0A.1 hl0A.2 rfl dX11_hangingTogether_23 ?_
      refine wk_icmp_ge C (tgt := 53) dX11_hangingTogether_24 (by decide) (fun c2 => ?_) (fun c2 => ?_)
      · rw [if_pos c2] at h
        refine wk_iload C dX11_hangingTogether_53 rfl ?_
        refine wk_istore_n C (lv' := [some (.ref l0A), none, some (.int l2I), some (.int l5I), some (.int l4I), some (.int l5I), some (.int l6I)]) dX11_hangingTogether_55 rfl (by decide) rfl ?_
        obtain ⟨x3, ex3, h⟩ := wkLt_some h
        refine wk_iinc C (lv' := [some (.ref l0A), none, some (.int l2I), some (.int l5I), some (.int x3), some (.int l5I), some (.int l6I)]) dX11_hangingTogether_56 rfl (by rw [ex3]; rfl) (by decide) rfl ?_
        refine wk_goto C (tgt := 7) dX11_hangingTogether_59 (by decide) ?_
        exact wk_forget (lv' := [some (.ref l0A), none, some (.int l2I), some (.int l5I), some (.int x3), none, none]) (wkLs.le ⟨rfl, rfl, rfl, rfl, trivial⟩) (ih.1 _ _ _ _ _ hW hE hl0A h)
      · rw [if_neg c2] at h
        refine wk_iload_n C dX11_hangingTogether_27 rfl rfl ?_
        refine wk_iload C dX11_hangingTogether_28 rfl ?_
        refine wk_ishr C dX11_hangingTogether_30 rfl ?_
        refine wk_iconst C (v := 1) dX11_hangingTogether_31 (by decide) ?_
        refine wk_iand C dX11_hangingTogether_32 rfl ?_
        refine wk_if_eq C (tgt := 47) dX11_hangingTogether_33 (by decide) (fun c4 => ?_) (fun c4 => ?_)
        · rw [if_pos c4] at h
          obtain ⟨x5, ex5, h⟩ := wkLt_some h
          refine wk_iinc C (lv' := [some (.ref l0A), none, some (.int l2I), some (.int l3I), some (.int l4I), some (.int l5I), some (.int x5)]) dX11_hangingTogether_47 rfl (by rw [ex5]; rfl) (by decide) rfl ?_
          refine wk_goto C (tgt := 20) dX11_hangingTogether_50 (by decide) ?_
          exact wk_forget (lv' := [some (.ref l0A), none, some (.int l2I), some (.int l3I), some (.int l4I), some (.int l5I), some (.int x5)]) (wkLs.le ⟨rfl, rfl, rfl, rfl, rfl, rfl, trivial⟩) (ih.2 _ _ _ _ _ _ _ hW hE hl0A h)
        · rw [if_neg c4] at h
          refine wk_iload C dX11_hangingTogether_36 rfl ?_
          refine wk_aload_n C dX11_hangingTogether_38 rfl rfl ?_
          refine wk_iload C dX11_hangingTogether_39 rfl ?_
          obtain ⟨i6, h⟩ := h
          refine wk_iald C hl0A.1 hl0A.2 i6 rfl dX11_hangingTogether_41 ?_
          refine wk_iload_n C dX11_hangingTogether_42 rfl rfl ?_
          refine wk_iand C dX11_hangingTogether_43 rfl ?_
          refine wk_ior C dX11_hangingTogether_44 rfl ?_
          obtain ⟨x7, ex7, h⟩ := wkLt_some h
          refine wk_topi ex7 ?_
          refine wk_istore C (lv' := [some (.ref l0A), none, some (.int l2I), some (.int l3I), some (.int l4I), some (.int x7), some (.int l6I)]) dX11_hangingTogether_45 (by decide) rfl ?_
          obtain ⟨x8, ex8, h⟩ := wkLt_some h
          refine wk_iinc C (lv' := [some (.ref l0A), none, some (.int l2I), some (.int l3I), some (.int l4I), some (.int x7), some (.int x8)]) dX11_hangingTogether_47 rfl (by rw [ex8]; rfl) (by decide) rfl ?_
          refine wk_goto C (tgt := 20) dX11_hangingTogether_50 (by decide) ?_
          exact wk_forget (lv' := [some (.ref l0A), none, some (.int l2I), some (.int l3I), some (.int l4I), some (.int x7), some (.int x8)]) (wkLs.le ⟨rfl, rfl, rfl, rfl, rfl, rfl, trivial⟩) (ih.2 _ _ _ _ _ _ _ hW hE hl0A h)
set_option maxHeartbeats 4000000 in
set_option maxRecDepth 100000 in
theorem tX11_hangingTogether {l : Launch} {g : wkG} {F : Nat}  {S : wPS} {l0A : Nat} {l1I : Int32} {l2I : Int32} {Φ : (Int32 → wPS → Prop)} (hW : wkWF S) (hl0A : wkIs S l0A 13) (h : rX11_hangingTogether F l0A l1I l2I S Φ) : wkMet l g yX11_hangingTogether wvX11_hangingTogether 0 0 0 [.ref l0A, .int l1I, .int l2I] S (fun v' S'' => ∃ v : Int32, v' = some (.int v) ∧ Φ v S'' ∧ wkWF S'' ∧ wkExt S S'') := by
  refine wkMet_of (ret := (some .int)) (by decide) rfl (Nat.le_of_ble_eq_true rfl) (fun X hg C hR E => ?_)
  subst hg
  have hE : wkExt S S := wkExt.rf
  have hd : 0 ≤ 0 := Nat.le_refl _
  show wkGo l X 7 0 0 0 S [some (.ref l0A), some (.int l1I), some (.int l2I), none, none, none, none] []
  have ih := tX11_hangingTogether_go (F := F) C hR hd E F
  have h : rX11_hangingTogether_s F (rX11_hangingTogether_go F F) l0A l1I l2I S Φ := h
  unfold rX11_hangingTogether_s at h
  refine wk_iconst C (v := 1) dX11_hangingTogether_0 (by decide) ?_
  refine wk_iload_n C dX11_hangingTogether_1 rfl rfl ?_
  refine wk_ishl C dX11_hangingTogether_2 rfl ?_
  obtain ⟨x9, ex9, h⟩ := wkLt_some h
  refine wk_topi ex9 ?_
  refine wk_istore_n C (lv' := [some (.ref l0A), some (.int l1I), some (.int l2I), some (.int x9), none, none, none]) dX11_hangingTogether_3 rfl (by decide) rfl ?_
  refine wk_iconst C (v := 0) dX11_hangingTogether_4 (by decide) ?_
  refine wk_istore C (lv' := [some (.ref l0A), some (.int l1I), some (.int l2I), some (.int x9), some (.int (0 : Int32)), none, none]) dX11_hangingTogether_5 (by decide) rfl ?_
  exact wk_forget (lv' := [some (.ref l0A), none, some (.int l2I), some (.int x9), some (.int (0 : Int32)), none, none]) (wkLs.le ⟨rfl, rfl, rfl, rfl, trivial⟩) (ih.1 _ _ _ _ _ hW hE hl0A h)
def wvX11_divisorInCommon : List Cond := .code yX11_divisorInCommon cX11_divisorInCommon 11 (some .long) :: (([.methodLink RX11 528 Lib.MathLoose.abs_long.x, .static Lib.MathLoose.abs_long.x, .initialized "java/lang/Math", .code Lib.MathLoose.abs_long.x Lib.MathLoose.abs_long.code 2 (some .long)] : List Cond) ++ (([]) ++ ([])))
theorem gdX11_divisorInCommon : ∀ w ∈ wvX11_divisorInCommon, wkGd w := wkGdC rfl (wkGdA (wkGdL (by decide +kernel)) (wkGdA (fun _ h => absurd h List.not_mem_nil) (fun _ h => absurd h List.not_mem_nil)))
def rX11_divisorInCommon_b0 (F : Nat) (rec : Nat → Int64 → Int64 → Int32 → wPS → (Int64 → wPS → Prop) → Prop) (l4J : Int64) (l6J : Int64) (l8I : Int32) (S : wPS) (Φ : (Int64 → wPS → Prop)) : Prop :=
  if (200 : Int32) ≤ l8I then (Φ l4J S) else (if (lg_cmp l6J (0 : Int64)) = 0 then (Φ l4J S) else (¬ l6J = 0 ∧ wkLt ((l4J - l4J / l6J * l6J)) fun x4 => wkLt (l8I + (1 : Int32)) fun x5 => rec 0 l6J x4 x5 S Φ))
def rX11_divisorInCommon_go (F : Nat) : Nat → Nat → Int64 → Int64 → Int32 → wPS → (Int64 → wPS → Prop) → Prop
  | 0, _, _, _, _, _, _ => False
  | k' + 1, lab, l4J, l6J, l8I, S, Φ => if lab = 0 then rX11_divisorInCommon_b0 F (rX11_divisorInCommon_go F k') l4J l6J l8I S Φ else False
def rX11_divisorInCommon_s (F : Nat) (rec : Nat → Int64 → Int64 → Int32 → wPS → (Int64 → wPS → Prop) → Prop) (l0J : Int64) (l2J : Int64) (S : wPS) (Φ : (Int64 → wPS → Prop)) : Prop :=
  wkLt ((if 0 < l0J then l0J else -l0J)) fun x6 => wkLt ((if 0 < l2J then l2J else -l2J)) fun x7 => rec 0 x6 x7 (0 : Int32) S Φ
def rX11_divisorInCommon (F : Nat) (l0J : Int64) (l2J : Int64) (S : wPS) (Φ : (Int64 → wPS → Prop)) : Prop := rX11_divisorInCommon_s F (rX11_divisorInCommon_go F F) l0J l2J S Φ
set_option maxHeartbeats 4000000 in
set_option maxRecDepth 100000 in
theorem tX11_divisorInCommon_go {l : Launch} {X : wkX} {d F : Nat} {S0 : wPS} {Φ : (Int64 → wPS → Prop)} (C : wkC X cX11_divisorInCommon RX11 11 wvX11_divisorInCommon) (hR : wkRm X d 0 0) (hd : 1 ≤ d) (E : wkEnd l X cX11_divisorInCommon 11 (some .long) 0 0 (fun v' S'' => ∃ v : Int64, v' = some (.long v) ∧ Φ v S'' ∧ wkWF S'' ∧ wkExt S0 S'')) : ∀ k' : Nat, (∀ (l4J : Int64) (l6J : Int64) (l8I : Int32) (S : wPS), wkWF S → wkExt S0 S → rX11_divisorInCommon_go F k' 0 l4J l6J l8I S Φ → wkGo l X 11 0 0 15 S [none, none, none, none, some (.long l4J), none, some (.long l6J), none, some (.int l8I), none, none] []) := by
  intro k'
  induction k' with
  | zero => exact fun l4J l6J l8I S hW hE  h => h.elim
  | succ k' ih =>
    · intro l4J l6J l8I S hW hE  h
      have h : rX11_divisorInCommon_b0 F (rX11_divisorInCommon_go F k') l4J l6J l8I S Φ := by
        rw [rX11_divisorInCommon_go, if_pos (rfl : (0 : Nat) = 0)] at h
        exact h
      unfold rX11_divisorInCommon_b0 at h
      refine wk_iload C dX11_divisorInCommon_15 rfl ?_
      refine wk_sipush C (v := 200) dX11_divisorInCommon_17 (by decide) ?_
      refine wk_icmp_ge C (tgt := 51) dX11_divisorInCommon_20 (by decide) (fun c1 => ?_) (fun c1 => ?_)
      · rw [if_pos c1] at h
        refine wk_lload C dX11_divisorInCommon_51 rfl ?_
        exact E _ _ _ _ _ _ (Nat.le_refl 0) (Nat.le_refl 0) dX11_divisorInCommon_53 ⟨l4J, rfl, h, hW, hE⟩
      · rw [if_neg c1] at h
        refine wk_lload C dX11_divisorInCommon_23 rfl ?_
        refine wk_lconst C (v := 0) dX11_divisorInCommon_25 (by decide) ?_
        refine wk_lcmp C dX11_divisorInCommon_26 rfl ?_
        refine wk_if_eq C (tgt := 51) dX11_divisorInCommon_27 (by decide) (fun c2 => ?_) (fun c2 => ?_)
        · rw [if_pos c2] at h
          refine wk_lload C dX11_divisorInCommon_51 rfl ?_
          exact E _ _ _ _ _ _ (Nat.le_refl 0) (Nat.le_refl 0) dX11_divisorInCommon_53 ⟨l4J, rfl, h, hW, hE⟩
        · rw [if_neg c2] at h
          refine wk_lload C dX11_divisorInCommon_30 rfl ?_
          refine wk_lload C dX11_divisorInCommon_32 rfl ?_
          obtain ⟨z3, h⟩ := h
          refine wk_lrem C dX11_divisorInCommon_34 z3 rfl ?_
          obtain ⟨x4, ex4, h⟩ := wkLt_some h
          refine wk_topl ex4 ?_
          refine wk_lstore C (lv' := [none, none, none, none, some (.long l4J), none, some (.long l6J), none, some (.int l8I), some (.long x4), none]) dX11_divisorInCommon_35 (by decide) rfl ?_
          refine wk_lload C dX11_divisorInCommon_37 rfl ?_
          refine wk_lstore C (lv' := [none, none, none, none, some (.long l6J), none, some (.long l6J), none, some (.int l8I), some (.long x4), none]) dX11_divisorInCommon_39 (by decide) rfl ?_
          refine wk_lload C dX11_divisorInCommon_41 rfl ?_
          refine wk_lstore C (lv' := [none, none, none, none, some (.long l6J), none, some (.long x4), none, some (.int l8I), some (.long x4), none]) dX11_divisorInCommon_43 (by decide) rfl ?_
          obtain ⟨x5, ex5, h⟩ := wkLt_some h
          refine wk_iinc C (lv' := [none, none, none, none, some (.long l6J), none, some (.long x4), none, some (.int x5), some (.long x4), none]) dX11_divisorInCommon_45 rfl (by rw [ex5]; rfl) (by decide) rfl ?_
          refine wk_goto C (tgt := 15) dX11_divisorInCommon_48 (by decide) ?_
          exact wk_forget (lv' := [none, none, none, none, some (.long l6J), none, some (.long x4), none, some (.int x5), none, none]) (wkLs.le ⟨rfl, rfl, rfl, trivial⟩) (ih _ _ _ _ hW hE  h)
set_option maxHeartbeats 4000000 in
set_option maxRecDepth 100000 in
theorem tX11_divisorInCommon {l : Launch} {g : wkG} {F : Nat}  {S : wPS} {l0J : Int64} {l2J : Int64} {Φ : (Int64 → wPS → Prop)} (hW : wkWF S)  (h : rX11_divisorInCommon F l0J l2J S Φ) : wkMet l g yX11_divisorInCommon wvX11_divisorInCommon 1 0 0 [.long l0J, .long l2J] S (fun v' S'' => ∃ v : Int64, v' = some (.long v) ∧ Φ v S'' ∧ wkWF S'' ∧ wkExt S S'') := by
  refine wkMet_of (ret := (some .long)) (by decide) rfl (Nat.le_of_ble_eq_true rfl) (fun X hg C hR E => ?_)
  subst hg
  have hE : wkExt S S := wkExt.rf
  have hd : 1 ≤ 1 := Nat.le_refl _
  show wkGo l X 11 0 0 0 S [some (.long l0J), none, some (.long l2J), none, none, none, none, none, none, none, none] []
  have ih := tX11_divisorInCommon_go (F := F) C hR hd E F
  have h : rX11_divisorInCommon_s F (rX11_divisorInCommon_go F F) l0J l2J S Φ := h
  unfold rX11_divisorInCommon_s at h
  refine wk_lload_n C dX11_divisorInCommon_0 rfl rfl ?_
  refine wk_mabs_long C hR (List.mem_of_getElem? (i := 1) rfl) (List.mem_of_getElem? (i := 2) rfl) (List.mem_of_getElem? (i := 3) rfl) (List.mem_of_getElem? (i := 4) rfl) (Nat.le_trans (by decide) hd) (Nat.le_refl 0) (Nat.le_refl 0) (Nat.le_of_ble_eq_true rfl) rfl dX11_divisorInCommon_1 ?_
  obtain ⟨x6, ex6, h⟩ := wkLt_some h
  refine wk_topl ex6 ?_
  refine wk_lstore C (lv' := [some (.long l0J), none, some (.long l2J), none, some (.long x6), none, none, none, none, none, none]) dX11_divisorInCommon_4 (by decide) rfl ?_
  refine wk_lload_n C dX11_divisorInCommon_6 rfl rfl ?_
  refine wk_mabs_long C hR (List.mem_of_getElem? (i := 1) rfl) (List.mem_of_getElem? (i := 2) rfl) (List.mem_of_getElem? (i := 3) rfl) (List.mem_of_getElem? (i := 4) rfl) (Nat.le_trans (by decide) hd) (Nat.le_refl 0) (Nat.le_refl 0) (Nat.le_of_ble_eq_true rfl) rfl dX11_divisorInCommon_7 ?_
  obtain ⟨x7, ex7, h⟩ := wkLt_some h
  refine wk_topl ex7 ?_
  refine wk_lstore C (lv' := [some (.long l0J), none, some (.long l2J), none, some (.long x6), none, some (.long x7), none, none, none, none]) dX11_divisorInCommon_10 (by decide) rfl ?_
  refine wk_iconst C (v := 0) dX11_divisorInCommon_12 (by decide) ?_
  refine wk_istore C (lv' := [some (.long l0J), none, some (.long l2J), none, some (.long x6), none, some (.long x7), none, some (.int (0 : Int32)), none, none]) dX11_divisorInCommon_13 (by decide) rfl ?_
  exact wk_forget (lv' := [none, none, none, none, some (.long x6), none, some (.long x7), none, some (.int (0 : Int32)), none, none]) (wkLs.le ⟨rfl, rfl, rfl, trivial⟩) (ih _ _ _ _ hW hE  h)
