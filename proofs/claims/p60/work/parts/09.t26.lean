def wvX2_countBranches : List Cond := .code yX2_countBranches cX2_countBranches 4 (some .int) :: (([.fieldLink RX2 62 "Witnessworks$Drawings" "nodeCount" "I", .fieldLink RX2 9 "Witnessworks$Drawings" "near" "[I", .methodLink RX2 100 yJ6_bitCount_0f7a4, .static yJ6_bitCount_0f7a4, .initialized RJ6] : List Cond) ++ ((wsX20) ++ (wvJ6_bitCount_0f7a4)))
theorem huX2_countBranches_2 : ∀ w ∈ u_ws RX2 TX2 10, w ∈ wvX2_countBranches := fun w h => List.mem_cons_of_mem _ (List.mem_append_right _ (List.mem_append_left _ h))
theorem hbX2_countBranches_J6_bitCount_0f7a4 : ∀ w ∈ wvJ6_bitCount_0f7a4, w ∈ wvX2_countBranches := fun w h => List.mem_cons_of_mem _ (List.mem_append_right _ (List.mem_append_right _ h))
theorem gdX2_countBranches : ∀ w ∈ wvX2_countBranches, wkGd w := wkGdC rfl (wkGdA (wkGdL (by decide +kernel)) (wkGdA gdX2 gdJ6_bitCount_0f7a4))
def rX2_countBranches_b0 (F : Nat) (rec : Nat → Nat → Int32 → Int32 → Int32 → wPS → (Int32 → wPS → Prop) → Prop) (l0A : Nat) (l1I : Int32) (l2I : Int32) (l3I : Int32) (S : wPS) (Φ : (Int32 → wPS → Prop)) : Prop :=
  if (gDrawings_nodeCount S l0A) ≤ l3I then (Φ l2I S) else (¬ (l3I < 0 ∨ S.len (wkAd (gDrawings_near S l0A)) ≤ (l3I).toNatClampNeg) ∧ rJ6_bitCount_0f7a4 F (S.rI (wkAd (gDrawings_near S l0A)) (l3I).toNatClampNeg) S fun v3 S4 => if v3 ≤ l1I then (wkLt (l3I + (1 : Int32)) fun x9 => rec 0 l0A l1I l2I x9 S4 Φ) else (wkLt (l2I + (1 : Int32)) fun x10 => wkLt (l3I + (1 : Int32)) fun x11 => rec 0 l0A l1I x10 x11 S4 Φ))
def rX2_countBranches_go (F : Nat) : Nat → Nat → Nat → Int32 → Int32 → Int32 → wPS → (Int32 → wPS → Prop) → Prop
  | 0, _, _, _, _, _, _, _ => False
  | k' + 1, lab, l0A, l1I, l2I, l3I, S, Φ => if lab = 0 then rX2_countBranches_b0 F (rX2_countBranches_go F k') l0A l1I l2I l3I S Φ else False
def rX2_countBranches_s (F : Nat) (rec : Nat → Nat → Int32 → Int32 → Int32 → wPS → (Int32 → wPS → Prop) → Prop) (l0A : Nat) (l1I : Int32) (S : wPS) (Φ : (Int32 → wPS → Prop)) : Prop :=
  rec 0 l0A l1I (0 : Int32) (0 : Int32) S Φ
def rX2_countBranches (F : Nat) (l0A : Nat) (l1I : Int32) (S : wPS) (Φ : (Int32 → wPS → Prop)) : Prop := rX2_countBranches_s F (rX2_countBranches_go F F) l0A l1I S Φ
set_option maxHeartbeats 4000000 in
set_option maxRecDepth 100000 in
theorem tX2_countBranches_go {l : Launch} {X : wkX} {d F : Nat} {S0 : wPS} {Φ : (Int32 → wPS → Prop)} (C : wkC X cX2_countBranches RX2 4 wvX2_countBranches) (hR : wkRm X d 0 0) (hd : 1 ≤ d) (E : wkEnd l X cX2_countBranches 4 (some .int) 0 0 (fun v' S'' => ∃ v : Int32, v' = some (.int v) ∧ Φ v S'' ∧ wkWF S'' ∧ wkExt S0 S'')) : ∀ k' : Nat, (∀ (l0A : Nat) (l1I : Int32) (l2I : Int32) (l3I : Int32) (S : wPS), wkWF S → wkExt S0 S → wkIs S l0A 2 → rX2_countBranches_go F k' 0 l0A l1I l2I l3I S Φ → wkGo l X 4 0 0 4 S [some (.ref l0A), some (.int l1I), some (.int l2I), some (.int l3I)] []) := by
  intro k'
  induction k' with
  | zero => exact fun l0A l1I l2I l3I S hW hE hl0A h => h.elim
  | succ k' ih =>
    · intro l0A l1I l2I l3I S hW hE hl0A h
      have h : rX2_countBranches_b0 F (rX2_countBranches_go F k') l0A l1I l2I l3I S Φ := by
        rw [rX2_countBranches_go, if_pos (rfl : (0 : Nat) = 0)] at h
        exact h
      unfold rX2_countBranches_b0 at h
      refine wk_iload_n C dX2_countBranches_4 rfl rfl ?_
      refine wk_aload_n C dX2_countBranches_5 rfl rfl ?_
      refine wk_get C (v := .int (gDrawings_nodeCount S l0A)) huX2_countBranches_2 hl0A.1 (fun cy => wAt_2 cy _ hl0A.2) rfl 8 (by decide) (List.mem_of_getElem? (i := 1) rfl) rfl rfl dX2_countBranches_6 ?_
      refine wk_icmp_ge C (tgt := 34) dX2_countBranches_9 (by decide) (fun c1 => ?_) (fun c1 => ?_)
      · rw [if_pos c1] at h
        refine wk_iload_n C dX2_countBranches_34 rfl rfl ?_
        exact E _ _ _ _ _ _ (Nat.le_refl 0) (Nat.le_refl 0) dX2_countBranches_35 ⟨l2I, rfl, h, hW, hE⟩
      · rw [if_neg c1] at h
        refine wk_aload_n C dX2_countBranches_12 rfl rfl ?_
        refine wk_get C huX2_countBranches_2 hl0A.1 (fun cy => wAt_2 cy _ hl0A.2) rfl 0 (by decide) (List.mem_of_getElem? (i := 2) rfl) rfl (congrArg some (congrArg va_rf (wf_Drawings_near hW hl0A).1)) dX2_countBranches_13 ?_
        refine wk_iload_n C dX2_countBranches_16 rfl rfl ?_
        obtain ⟨i2, h⟩ := h
        refine wk_iald C (wf_Drawings_near hW hl0A).2.1 (wf_Drawings_near hW hl0A).2.2 i2 rfl dX2_countBranches_17 ?_
        refine wk_callW C hR (As := [.int (S.rI (wkAd (gDrawings_near S l0A)) (l3I).toNatClampNeg)]) (cnt := 1) (tJ6_bitCount_0f7a4 (l := l) hW  h) rfl (wkGoodW (List.mem_of_getElem? (i := 3) rfl) (List.mem_of_getElem? (i := 4) rfl) (List.mem_of_getElem? (i := 5) rfl) hbX2_countBranches_J6_bitCount_0f7a4 gdJ6_bitCount_0f7a4) (Nat.le_trans (by decide : 0 + 1 ≤ 1) hd) (by decide) ⟨by decide, by decide, by decide +kernel⟩ rfl rfl (Nat.le_of_ble_eq_true rfl) (Nat.le_refl 0) (Nat.le_refl 0) dX2_countBranches_18 (fun v' S4 hp => ?_)
        obtain ⟨v3, rfl, h, hWS4, hXS4⟩ := hp
        refine wk_iload_n C dX2_countBranches_21 rfl rfl ?_
        refine wk_icmp_le C (tgt := 28) dX2_countBranches_22 (by decide) (fun c8 => ?_) (fun c8 => ?_)
        · rw [if_pos c8] at h
          obtain ⟨x9, ex9, h⟩ := wkLt_some h
          refine wk_iinc C (lv' := [some (.ref l0A), some (.int l1I), some (.int l2I), some (.int x9)]) dX2_countBranches_28 rfl (by rw [ex9]; rfl) (by decide) rfl ?_
          refine wk_goto C (tgt := 4) dX2_countBranches_31 (by decide) ?_
          exact wk_forget (lv' := [some (.ref l0A), some (.int l1I), some (.int l2I), some (.int x9)]) (wkLs.le ⟨rfl, rfl, rfl, rfl, trivial⟩) (ih _ _ _ _ _ hWS4 (wkExt.tr hE hXS4) (hXS4 _ _ hl0A) h)
        · rw [if_neg c8] at h
          obtain ⟨x10, ex10, h⟩ := wkLt_some h
          refine wk_iinc C (lv' := [some (.ref l0A), some (.int l1I), some (.int x10), some (.int l3I)]) dX2_countBranches_25 rfl (by rw [ex10]; rfl) (by decide) rfl ?_
          obtain ⟨x11, ex11, h⟩ := wkLt_some h
          refine wk_iinc C (lv' := [some (.ref l0A), some (.int l1I), some (.int x10), some (.int x11)]) dX2_countBranches_28 rfl (by rw [ex11]; rfl) (by decide) rfl ?_
          refine wk_goto C (tgt := 4) dX2_countBranches_31 (by decide) ?_
          exact wk_forget (lv' := [some (.ref l0A), some (.int l1I), some (.int x10), some (.int x11)]) (wkLs.le ⟨rfl, rfl, rfl, rfl, trivial⟩) (ih _ _ _ _ _ hWS4 (wkExt.tr hE hXS4) (hXS4 _ _ hl0A) h)
set_option maxHeartbeats 4000000 in
set_option maxRecDepth 100000 in
theorem tX2_countBranches {l : Launch} {g : wkG} {F : Nat}  {S : wPS} {l0A : Nat} {l1I : Int32} {Φ : (Int32 → wPS → Prop)} (hW : wkWF S) (hl0A : wkIs S l0A 2) (h : rX2_countBranches F l0A l1I S Φ) : wkMet l g yX2_countBranches wvX2_countBranches 1 0 0 [.ref l0A, .int l1I] S (fun v' S'' => ∃ v : Int32, v' = some (.int v) ∧ Φ v S'' ∧ wkWF S'' ∧ wkExt S S'') := by
  refine wkMet_of (ret := (some .int)) (by decide) rfl (Nat.le_of_ble_eq_true rfl) (fun X hg C hR E => ?_)
  subst hg
  have hE : wkExt S S := wkExt.rf
  have hd : 1 ≤ 1 := Nat.le_refl _
  show wkGo l X 4 0 0 0 S [some (.ref l0A), some (.int l1I), none, none] []
  have ih := tX2_countBranches_go (F := F) C hR hd E F
  have h : rX2_countBranches_s F (rX2_countBranches_go F F) l0A l1I S Φ := h
  unfold rX2_countBranches_s at h
  refine wk_iconst C (v := 0) dX2_countBranches_0 (by decide) ?_
  refine wk_istore_n C (lv' := [some (.ref l0A), some (.int l1I), some (.int (0 : Int32)), none]) dX2_countBranches_1 rfl (by decide) rfl ?_
  refine wk_iconst C (v := 0) dX2_countBranches_2 (by decide) ?_
  refine wk_istore_n C (lv' := [some (.ref l0A), some (.int l1I), some (.int (0 : Int32)), some (.int (0 : Int32))]) dX2_countBranches_3 rfl (by decide) rfl ?_
  exact wk_forget (lv' := [some (.ref l0A), some (.int l1I), some (.int (0 : Int32)), some (.int (0 : Int32))]) (wkLs.le ⟨rfl, rfl, rfl, rfl, trivial⟩) (ih _ _ _ _ _ hW hE hl0A h)
def wvX2_areBranchesOf : List Cond := .code yX2_areBranchesOf cX2_areBranchesOf 5 (some .boolean) :: (([.fieldLink RX2 62 "Witnessworks$Drawings" "nodeCount" "I", .methodLink RX2 125 yX2_countBranches, .instanceMethod yX2_countBranches, .selects RX2 yX2_countBranches yX2_countBranches, .initialized RX2, .fieldLink RX2 9 "Witnessworks$Drawings" "near" "[I", .methodLink RX2 100 yJ6_bitCount_0f7a4, .static yJ6_bitCount_0f7a4, .initialized RJ6] : List Cond) ++ ((wsX20) ++ (wvX2_countBranches ++ (wvJ6_bitCount_0f7a4))))
theorem huX2_areBranchesOf_2 : ∀ w ∈ u_ws RX2 TX2 10, w ∈ wvX2_areBranchesOf := fun w h => List.mem_cons_of_mem _ (List.mem_append_right _ (List.mem_append_left _ h))
theorem hbX2_areBranchesOf_X2_countBranches : ∀ w ∈ wvX2_countBranches, w ∈ wvX2_areBranchesOf := fun w h => List.mem_cons_of_mem _ (List.mem_append_right _ (List.mem_append_right _ (List.mem_append_left _ h)))
theorem hbX2_areBranchesOf_J6_bitCount_0f7a4 : ∀ w ∈ wvJ6_bitCount_0f7a4, w ∈ wvX2_areBranchesOf := fun w h => List.mem_cons_of_mem _ (List.mem_append_right _ (List.mem_append_right _ (List.mem_append_right _ h)))
theorem gdX2_areBranchesOf : ∀ w ∈ wvX2_areBranchesOf, wkGd w := wkGdC rfl (wkGdA (wkGdL (by decide +kernel)) (wkGdA gdX2 (wkGdA gdX2_countBranches gdJ6_bitCount_0f7a4)))
def rX2_areBranchesOf_b0 (F : Nat) (rec : Nat → Nat → Int32 → Int32 → Int32 → wPS → (Int32 → wPS → Prop) → Prop) (l0A : Nat) (l1I : Int32) (l2I : Int32) (l3I : Int32) (S : wPS) (Φ : (Int32 → wPS → Prop)) : Prop :=
  if (gDrawings_nodeCount S l0A) ≤ l3I then (rX2_countBranches F l0A (2 : Int32) S fun v2 S3 => if l1I = (5 : Int32) then (if v2 = (5 : Int32) then (Φ (1 : Int32) S3) else (Φ (0 : Int32) S3)) else (if v2 = (6 : Int32) then (Φ (1 : Int32) S3) else (Φ (0 : Int32) S3))) else (¬ (l3I < 0 ∨ S.len (wkAd (gDrawings_near S l0A)) ≤ (l3I).toNatClampNeg) ∧ rJ6_bitCount_0f7a4 F (S.rI (wkAd (gDrawings_near S l0A)) (l3I).toNatClampNeg) S fun v11 S12 => if v11 ≤ (2 : Int32) then (wkLt (l3I + (1 : Int32)) fun x17 => rec 0 l0A l1I l2I x17 S12 Φ) else (if v11 = l2I then (wkLt (l3I + (1 : Int32)) fun x19 => rec 0 l0A l1I l2I x19 S12 Φ) else (Φ (0 : Int32) S12)))
def rX2_areBranchesOf_go (F : Nat) : Nat → Nat → Nat → Int32 → Int32 → Int32 → wPS → (Int32 → wPS → Prop) → Prop
  | 0, _, _, _, _, _, _, _ => False
  | k' + 1, lab, l0A, l1I, l2I, l3I, S, Φ => if lab = 0 then rX2_areBranchesOf_b0 F (rX2_areBranchesOf_go F k') l0A l1I l2I l3I S Φ else False
def rX2_areBranchesOf_s (F : Nat) (rec : Nat → Nat → Int32 → Int32 → Int32 → wPS → (Int32 → wPS → Prop) → Prop) (l0A : Nat) (l1I : Int32) (S : wPS) (Φ : (Int32 → wPS → Prop)) : Prop :=
  if l1I = (5 : Int32) then (rec 0 l0A l1I (4 : Int32) (0 : Int32) S Φ) else (rec 0 l0A l1I (3 : Int32) (0 : Int32) S Φ)
def rX2_areBranchesOf (F : Nat) (l0A : Nat) (l1I : Int32) (S : wPS) (Φ : (Int32 → wPS → Prop)) : Prop := rX2_areBranchesOf_s F (rX2_areBranchesOf_go F F) l0A l1I S Φ
set_option maxHeartbeats 4000000 in
set_option maxRecDepth 100000 in
theorem tX2_areBranchesOf_go {l : Launch} {X : wkX} {d F : Nat} {S0 : wPS} {Φ : (Int32 → wPS → Prop)} (C : wkC X cX2_areBranchesOf RX2 5 wvX2_areBranchesOf) (hR : wkRm X d 0 0) (hd : 2 ≤ d) (E : wkEnd l X cX2_areBranchesOf 5 (some .boolean) 0 0 (fun v' S'' => ∃ v : Int32, v' = some (.int v) ∧ Φ v S'' ∧ wkWF S'' ∧ wkExt S0 S'')) : ∀ k' : Nat, (∀ (l0A : Nat) (l1I : Int32) (l2I : Int32) (l3I : Int32) (S : wPS), wkWF S → wkExt S0 S → wkIs S l0A 2 → rX2_areBranchesOf_go F k' 0 l0A l1I l2I l3I S Φ → wkGo l X 5 0 0 13 S [some (.ref l0A), some (.int l1I), some (.int l2I), some (.int l3I), none] []) := by
  intro k'
  induction k' with
  | zero => exact fun l0A l1I l2I l3I S hW hE hl0A h => h.elim
  | succ k' ih =>
    · intro l0A l1I l2I l3I S hW hE hl0A h
      have h : rX2_areBranchesOf_b0 F (rX2_areBranchesOf_go F k') l0A l1I l2I l3I S Φ := by
        rw [rX2_areBranchesOf_go, if_pos (rfl : (0 : Nat) = 0)] at h
        exact h
      unfold rX2_areBranchesOf_b0 at h
      refine wk_iload_n C dX2_areBranchesOf_13 rfl rfl ?_
      refine wk_aload_n C dX2_areBranchesOf_14 rfl rfl ?_
      refine wk_get C (v := .int (gDrawings_nodeCount S l0A)) huX2_areBranchesOf_2 hl0A.1 (fun cy => wAt_2 cy _ hl0A.2) rfl 8 (by decide) (List.mem_of_getElem? (i := 1) rfl) rfl rfl dX2_areBranchesOf_15 ?_
      refine wk_icmp_ge C (tgt := 52) dX2_areBranchesOf_18 (by decide) (fun c1 => ?_) (fun c1 => ?_)
      · rw [if_pos c1] at h
        refine wk_aload_n C dX2_areBranchesOf_52 rfl rfl ?_
        refine wk_iconst C (v := 2) dX2_areBranchesOf_53 (by decide) ?_
        refine wk_callV C hR (As := [.int (2 : Int32)]) (cnt := 1) (tX2_countBranches (l := l) hW hl0A h) rfl (wkGoodV (List.mem_of_getElem? (i := 2) rfl) (List.mem_of_getElem? (i := 3) rfl) (List.mem_of_getElem? (i := 4) rfl) (List.mem_of_getElem? (i := 5) rfl) hbX2_areBranchesOf_X2_countBranches gdX2_countBranches) (Nat.le_trans (by decide : 1 + 1 ≤ 2) hd) (by decide) hl0A.1 (fun cy => wAt_2 cy _ hl0A.2) rfl ⟨by decide, by decide, by decide +kernel⟩ rfl rfl (Nat.le_of_ble_eq_true rfl) (Nat.le_refl 0) (Nat.le_refl 0) dX2_areBranchesOf_54 (fun v' S3 hp => ?_)
        obtain ⟨v2, rfl, h, hWS3, hXS3⟩ := hp
        refine wk_iload_n C dX2_areBranchesOf_57 rfl rfl ?_
        refine wk_iconst C (v := 5) dX2_areBranchesOf_58 (by decide) ?_
        refine wk_icmp_ne C (tgt := 66) dX2_areBranchesOf_59 (by decide) (fun c7 => ?_) (fun c7 => ?_)
        · rw [if_neg c7] at h
          refine wk_bipush C (v := 6) dX2_areBranchesOf_66 (by decide) ?_
          refine wk_icmp_ne C (tgt := 75) dX2_areBranchesOf_68 (by decide) (fun c8 => ?_) (fun c8 => ?_)
          · rw [if_neg c8] at h
            refine wk_iconst C (v := 0) dX2_areBranchesOf_75 (by decide) ?_
            exact E _ _ _ _ _ _ (Nat.le_refl 0) (Nat.le_refl 0) dX2_areBranchesOf_76 rfl ⟨(0 : Int32), rfl, h, hWS3, (wkExt.tr hE hXS3)⟩
          · rw [if_pos c8] at h
            refine wk_iconst C (v := 1) dX2_areBranchesOf_71 (by decide) ?_
            refine wk_goto C (tgt := 76) dX2_areBranchesOf_72 (by decide) ?_
            exact E _ _ _ _ _ _ (Nat.le_refl 0) (Nat.le_refl 0) dX2_areBranchesOf_76 rfl ⟨(1 : Int32), rfl, h, hWS3, (wkExt.tr hE hXS3)⟩
        · rw [if_pos c7] at h
          refine wk_iconst C (v := 5) dX2_areBranchesOf_62 (by decide) ?_
          refine wk_goto C (tgt := 68) dX2_areBranchesOf_63 (by decide) ?_
          refine wk_icmp_ne C (tgt := 75) dX2_areBranchesOf_68 (by decide) (fun c9 => ?_) (fun c9 => ?_)
          · rw [if_neg c9] at h
            refine wk_iconst C (v := 0) dX2_areBranchesOf_75 (by decide) ?_
            exact E _ _ _ _ _ _ (Nat.le_refl 0) (Nat.le_refl 0) dX2_areBranchesOf_76 rfl ⟨(0 : Int32), rfl, h, hWS3, (wkExt.tr hE hXS3)⟩
          · rw [if_pos c9] at h
            refine wk_iconst C (v := 1) dX2_areBranchesOf_71 (by decide) ?_
            refine wk_goto C (tgt := 76) dX2_areBranchesOf_72 (by decide) ?_
            exact E _ _ _ _ _ _ (Nat.le_refl 0) (Nat.le_refl 0) dX2_areBranchesOf_76 rfl ⟨(1 : Int32), rfl, h, hWS3, (wkExt.tr hE hXS3)⟩
      · rw [if_neg c1] at h
        refine wk_aload_n C dX2_areBranchesOf_21 rfl rfl ?_
        refine wk_get C huX2_areBranchesOf_2 hl0A.1 (fun cy => wAt_2 cy _ hl0A.2) rfl 0 (by decide) (List.mem_of_getElem? (i := 6) rfl) rfl (congrArg some (congrArg va_rf (wf_Drawings_near hW hl0A).1)) dX2_areBranchesOf_22 ?_
        refine wk_iload_n C dX2_areBranchesOf_25 rfl rfl ?_
        obtain ⟨i10, h⟩ := h
        refine wk_iald C (wf_Drawings_near hW hl0A).2.1 (wf_Drawings_near hW hl0A).2.2 i10 rfl dX2_areBranchesOf_26 ?_
        refine wk_callW C hR (As := [.int (S.rI (wkAd (gDrawings_near S l0A)) (l3I).toNatClampNeg)]) (cnt := 1) (tJ6_bitCount_0f7a4 (l := l) hW  h) rfl (wkGoodW (List.mem_of_getElem? (i := 7) rfl) (List.mem_of_getElem? (i := 8) rfl) (List.mem_of_getElem? (i := 9) rfl) hbX2_areBranchesOf_J6_bitCount_0f7a4 gdJ6_bitCount_0f7a4) (Nat.le_trans (by decide : 0 + 1 ≤ 2) hd) (by decide) ⟨by decide, by decide, by decide +kernel⟩ rfl rfl (Nat.le_of_ble_eq_true rfl) (Nat.le_refl 0) (Nat.le_refl 0) dX2_areBranchesOf_27 (fun v' S12 hp => ?_)
        obtain ⟨v11, rfl, h, hWS12, hXS12⟩ := hp
        refine wk_istore C (lv' := [some (.ref l0A), some (.int l1I), some (.int l2I), some (.int l3I), some (.int v11)]) dX2_areBranchesOf_30 (by decide) rfl ?_
        refine wk_iload C dX2_areBranchesOf_32 rfl ?_
        refine wk_iconst C (v := 2) dX2_areBranchesOf_34 (by decide) ?_
        refine wk_icmp_le C (tgt := 46) dX2_areBranchesOf_35 (by decide) (fun c16 => ?_) (fun c16 => ?_)
        · rw [if_pos c16] at h
          obtain ⟨x17, ex17, h⟩ := wkLt_some h
          refine wk_iinc C (lv' := [some (.ref l0A), some (.int l1I), some (.int l2I), some (.int x17), some (.int v11)]) dX2_areBranchesOf_46 rfl (by rw [ex17]; rfl) (by decide) rfl ?_
          refine wk_goto C (tgt := 13) dX2_areBranchesOf_49 (by decide) ?_
          exact wk_forget (lv' := [some (.ref l0A), some (.int l1I), some (.int l2I), some (.int x17), none]) (wkLs.le ⟨rfl, rfl, rfl, rfl, trivial⟩) (ih _ _ _ _ _ hWS12 (wkExt.tr hE hXS12) (hXS12 _ _ hl0A) h)
        · rw [if_neg c16] at h
          refine wk_iload C dX2_areBranchesOf_38 rfl ?_
          refine wk_iload_n C dX2_areBranchesOf_40 rfl rfl ?_
          refine wk_icmp_eq C (tgt := 46) dX2_areBranchesOf_41 (by decide) (fun c18 => ?_) (fun c18 => ?_)
          · rw [if_pos c18] at h
            obtain ⟨x19, ex19, h⟩ := wkLt_some h
            refine wk_iinc C (lv' := [some (.ref l0A), some (.int l1I), some (.int l2I), some (.int x19), some (.int v11)]) dX2_areBranchesOf_46 rfl (by rw [ex19]; rfl) (by decide) rfl ?_
            refine wk_goto C (tgt := 13) dX2_areBranchesOf_49 (by decide) ?_
            exact wk_forget (lv' := [some (.ref l0A), some (.int l1I), some (.int l2I), some (.int x19), none]) (wkLs.le ⟨rfl, rfl, rfl, rfl, trivial⟩) (ih _ _ _ _ _ hWS12 (wkExt.tr hE hXS12) (hXS12 _ _ hl0A) h)
          · rw [if_neg c18] at h
            refine wk_iconst C (v := 0) dX2_areBranchesOf_44 (by decide) ?_
            exact E _ _ _ _ _ _ (Nat.le_refl 0) (Nat.le_refl 0) dX2_areBranchesOf_45 rfl ⟨(0 : Int32), rfl, h, hWS12, (wkExt.tr hE hXS12)⟩
set_option maxHeartbeats 4000000 in
set_option maxRecDepth 100000 in
theorem tX2_areBranchesOf {l : Launch} {g : wkG} {F : Nat}  {S : wPS} {l0A : Nat} {l1I : Int32} {Φ : (Int32 → wPS → Prop)} (hW : wkWF S) (hl0A : wkIs S l0A 2) (h : rX2_areBranchesOf F l0A l1I S Φ) : wkMet l g yX2_areBranchesOf wvX2_areBranchesOf 2 0 0 [.ref l0A, .int l1I] S (fun v' S'' => ∃ v : Int32, v' = some (.int v) ∧ Φ v S'' ∧ wkWF S'' ∧ wkExt S S'') := by
  refine wkMet_of (ret := (some .boolean)) (by decide) rfl (Nat.le_of_ble_eq_true rfl) (fun X hg C hR E => ?_)
  subst hg
  have hE : wkExt S S := wkExt.rf
  have hd : 2 ≤ 2 := Nat.le_refl _
  show wkGo l X 5 0 0 0 S [some (.ref l0A), some (.int l1I), none, none, none] []
  have ih := tX2_areBranchesOf_go (F := F) C hR hd E F
  have h : rX2_areBranchesOf_s F (rX2_areBranchesOf_go F F) l0A l1I S Φ := h
  unfold rX2_areBranchesOf_s at h
  refine wk_iload_n C dX2_areBranchesOf_0 rfl rfl ?_
  refine wk_iconst C (v := 5) dX2_areBranchesOf_1 (by decide) ?_
  refine wk_icmp_ne C (tgt := 9) dX2_areBranchesOf_2 (by decide) (fun c20 => ?_) (fun c20 => ?_)
  · rw [if_neg c20] at h
    refine wk_iconst C (v := 3) dX2_areBranchesOf_9 (by decide) ?_
    refine wk_istore_n C (lv' := [some (.ref l0A), some (.int l1I), some (.int (3 : Int32)), none, none]) dX2_areBranchesOf_10 rfl (by decide) rfl ?_
    refine wk_iconst C (v := 0) dX2_areBranchesOf_11 (by decide) ?_
    refine wk_istore_n C (lv' := [some (.ref l0A), some (.int l1I), some (.int (3 : Int32)), some (.int (0 : Int32)), none]) dX2_areBranchesOf_12 rfl (by decide) rfl ?_
    exact wk_forget (lv' := [some (.ref l0A), some (.int l1I), some (.int (3 : Int32)), some (.int (0 : Int32)), none]) (wkLs.le ⟨rfl, rfl, rfl, rfl, trivial⟩) (ih _ _ _ _ _ hW hE hl0A h)
  · rw [if_pos c20] at h
    refine wk_iconst C (v := 4) dX2_areBranchesOf_5 (by decide) ?_
    refine wk_goto C (tgt := 10) dX2_areBranchesOf_6 (by decide) ?_
    refine wk_istore_n C (lv' := [some (.ref l0A), some (.int l1I), some (.int (4 : Int32)), none, none]) dX2_areBranchesOf_10 rfl (by decide) rfl ?_
    refine wk_iconst C (v := 0) dX2_areBranchesOf_11 (by decide) ?_
    refine wk_istore_n C (lv' := [some (.ref l0A), some (.int l1I), some (.int (4 : Int32)), some (.int (0 : Int32)), none]) dX2_areBranchesOf_12 rfl (by decide) rfl ?_
    exact wk_forget (lv' := [some (.ref l0A), some (.int l1I), some (.int (4 : Int32)), some (.int (0 : Int32)), none]) (wkLs.le ⟨rfl, rfl, rfl, rfl, trivial⟩) (ih _ _ _ _ _ hW hE hl0A h)
def wvX2_followWay : List Cond := .code yX2_followWay cX2_followWay 7 (some .int) :: (([.fieldLink RX2 31 "Witnessworks$Drawings" "ways" "[I", .static yX11_has, .initialized RX11, .fieldLink RX2 9 "Witnessworks$Drawings" "near" "[I", .methodLink RX2 100 yJ6_bitCount_0f7a4, .static yJ6_bitCount_0f7a4, .initialized RJ6, .static yX11_lowest] : List Cond) ++ ((wsX20) ++ (wvX11_has ++ (wvJ6_bitCount_0f7a4 ++ (wvX11_lowest)))))
theorem huX2_followWay_2 : ∀ w ∈ u_ws RX2 TX2 10, w ∈ wvX2_followWay := fun w h => List.mem_cons_of_mem _ (List.mem_append_right _ (List.mem_append_left _ h))
theorem hbX2_followWay_X11_has : ∀ w ∈ wvX11_has, w ∈ wvX2_followWay := fun w h => List.mem_cons_of_mem _ (List.mem_append_right _ (List.mem_append_right _ (List.mem_append_left _ h)))
theorem hbX2_followWay_J6_bitCount_0f7a4 : ∀ w ∈ wvJ6_bitCount_0f7a4, w ∈ wvX2_followWay := fun w h => List.mem_cons_of_mem _ (List.mem_append_right _ (List.mem_append_right _ (List.mem_append_right _ (List.mem_append_left _ h))))
theorem hbX2_followWay_X11_lowest : ∀ w ∈ wvX11_lowest, w ∈ wvX2_followWay := fun w h => List.mem_cons_of_mem _ (List.mem_append_right _ (List.mem_append_right _ (List.mem_append_right _ (List.mem_append_right _ h))))
theorem gdX2_followWay : ∀ w ∈ wvX2_followWay, wkGd w := wkGdC rfl (wkGdA (wkGdL (by decide +kernel)) (wkGdA gdX2 (wkGdA gdX11_has (wkGdA gdJ6_bitCount_0f7a4 gdX11_lowest))))
def rX2_followWay_b0 (F : Nat) (rec : Nat → Nat → Int32 → Int32 → Int32 → Int32 → wPS → (Int32 → wPS → Prop) → Prop) (l0A : Nat) (l1I : Int32) (l3I : Int32) (l4I : Int32) (l5I : Int32) (S : wPS) (Φ : (Int32 → wPS → Prop)) : Prop :=
  if (22 : Int32) ≤ l5I then (if l4I = l1I then (Φ (0 : Int32) S) else (¬ (l1I < 0 ∨ S.len (wkAd (gDrawings_ways S l0A)) ≤ (l1I).toNatClampNeg) ∧ rX11_has F (S.rI (wkAd (gDrawings_ways S l0A)) (l1I).toNatClampNeg) l4I S fun v4 S5 => if v4 = 0 then (¬ (l1I < 0 ∨ S5.len (wkAd (gDrawings_ways S5 l0A)) ≤ (l1I).toNatClampNeg) ∧ ¬ (l1I < 0 ∨ S5.len (wkAd (gDrawings_ways S5 l0A)) ≤ (l1I).toNatClampNeg) ∧ wkLt (wuI S5 (wkAd (gDrawings_ways S5 l0A)) l1I ((S5.rI (wkAd (gDrawings_ways S5 l0A)) (l1I).toNatClampNeg) ||| ((1 : Int32) <<< (l4I &&& 31)))) fun S12 => Φ l5I S12) else (Φ (0 : Int32) S5))) else (¬ (l4I < 0 ∨ S.len (wkAd (gDrawings_near S l0A)) ≤ (l4I).toNatClampNeg) ∧ rJ6_bitCount_0f7a4 F (S.rI (wkAd (gDrawings_near S l0A)) (l4I).toNatClampNeg) S fun v14 S15 => if v14 = (2 : Int32) then (¬ (l4I < 0 ∨ S15.len (wkAd (gDrawings_near S15 l0A)) ≤ (l4I).toNatClampNeg) ∧ rX11_lowest F ((S15.rI (wkAd (gDrawings_near S15 l0A)) (l4I).toNatClampNeg) &&& (((1 : Int32) <<< (l3I &&& 31)) ^^^ (-1 : Int32))) S15 fun v32 S33 => wkLt (l5I + (1 : Int32)) fun x37 => rec 0 l0A l1I l4I v32 x37 S33 Φ) else (if l4I = l1I then (Φ (0 : Int32) S15) else (¬ (l1I < 0 ∨ S15.len (wkAd (gDrawings_ways S15 l0A)) ≤ (l1I).toNatClampNeg) ∧ rX11_has F (S15.rI (wkAd (gDrawings_ways S15 l0A)) (l1I).toNatClampNeg) l4I S15 fun v22 S23 => if v22 = 0 then (¬ (l1I < 0 ∨ S23.len (wkAd (gDrawings_ways S23 l0A)) ≤ (l1I).toNatClampNeg) ∧ ¬ (l1I < 0 ∨ S23.len (wkAd (gDrawings_ways S23 l0A)) ≤ (l1I).toNatClampNeg) ∧ wkLt (wuI S23 (wkAd (gDrawings_ways S23 l0A)) l1I ((S23.rI (wkAd (gDrawings_ways S23 l0A)) (l1I).toNatClampNeg) ||| ((1 : Int32) <<< (l4I &&& 31)))) fun S30 => Φ l5I S30) else (Φ (0 : Int32) S23))))
def rX2_followWay_go (F : Nat) : Nat → Nat → Nat → Int32 → Int32 → Int32 → Int32 → wPS → (Int32 → wPS → Prop) → Prop
  | 0, _, _, _, _, _, _, _, _ => False
  | k' + 1, lab, l0A, l1I, l3I, l4I, l5I, S, Φ => if lab = 0 then rX2_followWay_b0 F (rX2_followWay_go F k') l0A l1I l3I l4I l5I S Φ else False
def rX2_followWay_s (F : Nat) (rec : Nat → Nat → Int32 → Int32 → Int32 → Int32 → wPS → (Int32 → wPS → Prop) → Prop) (l0A : Nat) (l1I : Int32) (l2I : Int32) (S : wPS) (Φ : (Int32 → wPS → Prop)) : Prop :=
  rec 0 l0A l1I l1I l2I (1 : Int32) S Φ
def rX2_followWay (F : Nat) (l0A : Nat) (l1I : Int32) (l2I : Int32) (S : wPS) (Φ : (Int32 → wPS → Prop)) : Prop := rX2_followWay_s F (rX2_followWay_go F F) l0A l1I l2I S Φ
set_option maxHeartbeats 4000000 in
set_option maxRecDepth 100000 in
theorem tX2_followWay_go {l : Launch} {X : wkX} {d F : Nat} {S0 : wPS} {Φ : (Int32 → wPS → Prop)} (C : wkC X cX2_followWay RX2 7 wvX2_followWay) (hR : wkRm X d 0 0) (hd : 2 ≤ d) (E : wkEnd l X cX2_followWay 7 (some .int) 0 0 (fun v' S'' => ∃ v : Int32, v' = some (.int v) ∧ Φ v S'' ∧ wkWF S'' ∧ wkExt S0 S'')) : ∀ k' : Nat, (∀ (l0A : Nat) (l1I : Int32) (l3I : Int32) (l4I : Int32) (l5I : Int32) (S : wPS), wkWF S → wkExt S0 S → wkIs S l0A 2 → rX2_followWay_go F k' 0 l0A l1I l3I l4I l5I S Φ → wkGo l X 7 0 0 8 S [some (.ref l0A), some (.int l1I), none, some (.int l3I), some (.int l4I), some (.int l5I), none] []) := by
  intro k'
  induction k' with
  | zero => exact fun l0A l1I l3I l4I l5I S hW hE hl0A h => h.elim
  | succ k' ih =>
    · intro l0A l1I l3I l4I l5I S hW hE hl0A h
      have h : rX2_followWay_b0 F (rX2_followWay_go F k') l0A l1I l3I l4I l5I S Φ := by
        rw [rX2_followWay_go, if_pos (rfl : (0 : Nat) = 0)] at h
        exact h
      unfold rX2_followWay_b0 at h
      refine wk_iload C dX2_followWay_8 rfl ?_
      refine wk_bipush C (v := 22) dX2_followWay_10 (by decide) ?_
      refine wk_icmp_ge C (tgt := 60) dX2_followWay_12 (by decide) (fun c1 => ?_) (fun c1 => ?_)
      · rw [if_pos c1] at h
        refine wk_iload C dX2_followWay_60 rfl ?_
        refine wk_iload_n C dX2_followWay_62 rfl rfl ?_
        refine wk_icmp_eq C (tgt := 80) dX2_followWay_63 (by decide) (fun c2 => ?_) (fun c2 => ?_)
        · rw [if_pos c2] at h
          refine wk_iconst C (v := 0) dX2_followWay_80 (by decide) ?_
          exact E _ _ _ _ _ _ (Nat.le_refl 0) (Nat.le_refl 0) dX2_followWay_81 ⟨(0 : Int32), rfl, h, hW, hE⟩
        · rw [if_neg c2] at h
          refine wk_aload_n C dX2_followWay_66 rfl rfl ?_
          refine wk_get C huX2_followWay_2 hl0A.1 (fun cy => wAt_2 cy _ hl0A.2) rfl 7 (by decide) (List.mem_of_getElem? (i := 1) rfl) rfl (congrArg some (congrArg va_rf (wf_Drawings_ways hW hl0A).1)) dX2_followWay_67 ?_
          refine wk_iload_n C dX2_followWay_70 rfl rfl ?_
          obtain ⟨i3, h⟩ := h
          refine wk_iald C (wf_Drawings_ways hW hl0A).2.1 (wf_Drawings_ways hW hl0A).2.2 i3 rfl dX2_followWay_71 ?_
          refine wk_iload C dX2_followWay_72 rfl ?_
          refine wk_callN C hR (y := yX11_has) (host := "Witnessworks") (As := [.int (S.rI (wkAd (gDrawings_ways S l0A)) (l1I).toNatClampNeg), .int l4I]) (cnt := 2) (tX11_has (l := l) hW  h) rfl (fun w h => ⟨hbX2_followWay_X11_has w h, gdX11_has w h⟩) (by decide +kernel) (List.mem_of_getElem? (i := 2) rfl) (List.mem_of_getElem? (i := 3) rfl) (Nat.le_trans (by decide : 0 + 1 ≤ 2) hd) (by decide) ⟨by decide, by decide, by decide +kernel⟩ rfl rfl (Nat.le_of_ble_eq_true rfl) (Nat.le_refl 0) (Nat.le_refl 0) dX2_followWay_74 (fun v' S5 hp => ?_)
          obtain ⟨v4, rfl, h, hWS5, hXS5⟩ := hp
          refine wk_if_eq C (tgt := 82) dX2_followWay_77 (by decide) (fun c9 => ?_) (fun c9 => ?_)
          · rw [if_pos c9] at h
            refine wk_aload_n C dX2_followWay_82 rfl rfl ?_
            refine wk_get C huX2_followWay_2 (hXS5 _ _ hl0A).1 (fun cy => wAt_2 cy _ (hXS5 _ _ hl0A).2) rfl 7 (by decide) (List.mem_of_getElem? (i := 1) rfl) rfl (congrArg some (congrArg va_rf (wf_Drawings_ways hWS5 (hXS5 _ _ hl0A)).1)) dX2_followWay_83 ?_
            refine wk_iload_n C dX2_followWay_86 rfl rfl ?_
            refine wk_dup2 C dX2_followWay_87 rfl rfl ?_
            obtain ⟨i10, h⟩ := h
            refine wk_iald C (wf_Drawings_ways hWS5 (hXS5 _ _ hl0A)).2.1 (wf_Drawings_ways hWS5 (hXS5 _ _ hl0A)).2.2 i10 rfl dX2_followWay_88 ?_
            refine wk_iconst C (v := 1) dX2_followWay_89 (by decide) ?_
            refine wk_iload C dX2_followWay_90 rfl ?_
            refine wk_ishl C dX2_followWay_92 rfl ?_
            refine wk_ior C dX2_followWay_93 rfl ?_
            obtain ⟨i11, h⟩ := h
            obtain ⟨S12, eS12, h⟩ := wkLt_some h
            refine wk_iast C (wf_Drawings_ways hWS5 (hXS5 _ _ hl0A)).2.1 (wf_Drawings_ways hWS5 (hXS5 _ _ hl0A)).2.2 i11 eS12.symm dX2_followWay_94 ?_
            have hWS12 : wkWF S12 := by rw [eS12]; exact hWS5
            have hXS12 : wkExt S5 S12 := by rw [eS12]; exact wkExt.rf
            refine wk_iload C dX2_followWay_95 rfl ?_
            exact E _ _ _ _ _ _ (Nat.le_refl 0) (Nat.le_refl 0) dX2_followWay_97 ⟨l5I, rfl, h, hWS12, (wkExt.tr (wkExt.tr hE hXS5) hXS12)⟩
          · rw [if_neg c9] at h
            refine wk_iconst C (v := 0) dX2_followWay_80 (by decide) ?_
            exact E _ _ _ _ _ _ (Nat.le_refl 0) (Nat.le_refl 0) dX2_followWay_81 ⟨(0 : Int32), rfl, h, hWS5, (wkExt.tr hE hXS5)⟩
      · rw [if_neg c1] at h
        refine wk_aload_n C dX2_followWay_15 rfl rfl ?_
        refine wk_get C huX2_followWay_2 hl0A.1 (fun cy => wAt_2 cy _ hl0A.2) rfl 0 (by decide) (List.mem_of_getElem? (i := 4) rfl) rfl (congrArg some (congrArg va_rf (wf_Drawings_near hW hl0A).1)) dX2_followWay_16 ?_
        refine wk_iload C dX2_followWay_19 rfl ?_
        obtain ⟨i13, h⟩ := h
        refine wk_iald C (wf_Drawings_near hW hl0A).2.1 (wf_Drawings_near hW hl0A).2.2 i13 rfl dX2_followWay_21 ?_
        refine wk_callW C hR (As := [.int (S.rI (wkAd (gDrawings_near S l0A)) (l4I).toNatClampNeg)]) (cnt := 1) (tJ6_bitCount_0f7a4 (l := l) hW  h) rfl (wkGoodW (List.mem_of_getElem? (i := 5) rfl) (List.mem_of_getElem? (i := 6) rfl) (List.mem_of_getElem? (i := 7) rfl) hbX2_followWay_J6_bitCount_0f7a4 gdJ6_bitCount_0f7a4) (Nat.le_trans (by decide : 0 + 1 ≤ 2) hd) (by decide) ⟨by decide, by decide, by decide +kernel⟩ rfl rfl (Nat.le_of_ble_eq_true rfl) (Nat.le_refl 0) (Nat.le_refl 0) dX2_followWay_22 (fun v' S15 hp => ?_)
        obtain ⟨v14, rfl, h, hWS15, hXS15⟩ := hp
        refine wk_iconst C (v := 2) dX2_followWay_25 (by decide) ?_
        refine wk_icmp_ne C (tgt := 60) dX2_followWay_26 (by decide) (fun c19 => ?_) (fun c19 => ?_)
        · rw [if_neg c19] at h
          refine wk_iload C dX2_followWay_60 rfl ?_
          refine wk_iload_n C dX2_followWay_62 rfl rfl ?_
          refine wk_icmp_eq C (tgt := 80) dX2_followWay_63 (by decide) (fun c20 => ?_) (fun c20 => ?_)
          · rw [if_pos c20] at h
            refine wk_iconst C (v := 0) dX2_followWay_80 (by decide) ?_
            exact E _ _ _ _ _ _ (Nat.le_refl 0) (Nat.le_refl 0) dX2_followWay_81 ⟨(0 : Int32), rfl, h, hWS15, (wkExt.tr hE hXS15)⟩
          · rw [if_neg c20] at h
            refine wk_aload_n C dX2_followWay_66 rfl rfl ?_
            refine wk_get C huX2_followWay_2 (hXS15 _ _ hl0A).1 (fun cy => wAt_2 cy _ (hXS15 _ _ hl0A).2) rfl 7 (by decide) (List.mem_of_getElem? (i := 1) rfl) rfl (congrArg some (congrArg va_rf (wf_Drawings_ways hWS15 (hXS15 _ _ hl0A)).1)) dX2_followWay_67 ?_
            refine wk_iload_n C dX2_followWay_70 rfl rfl ?_
            obtain ⟨i21, h⟩ := h
            refine wk_iald C (wf_Drawings_ways hWS15 (hXS15 _ _ hl0A)).2.1 (wf_Drawings_ways hWS15 (hXS15 _ _ hl0A)).2.2 i21 rfl dX2_followWay_71 ?_
            refine wk_iload C dX2_followWay_72 rfl ?_
            refine wk_callN C hR (y := yX11_has) (host := "Witnessworks") (As := [.int (S15.rI (wkAd (gDrawings_ways S15 l0A)) (l1I).toNatClampNeg), .int l4I]) (cnt := 2) (tX11_has (l := l) hWS15  h) rfl (fun w h => ⟨hbX2_followWay_X11_has w h, gdX11_has w h⟩) (by decide +kernel) (List.mem_of_getElem? (i := 2) rfl) (List.mem_of_getElem? (i := 3) rfl) (Nat.le_trans (by decide : 0 + 1 ≤ 2) hd) (by decide) ⟨by decide, by decide, by decide +kernel⟩ rfl rfl (Nat.le_of_ble_eq_true rfl) (Nat.le_refl 0) (Nat.le_refl 0) dX2_followWay_74 (fun v' S23 hp => ?_)
            obtain ⟨v22, rfl, h, hWS23, hXS23⟩ := hp
            refine wk_if_eq C (tgt := 82) dX2_followWay_77 (by decide) (fun c27 => ?_) (fun c27 => ?_)
            · rw [if_pos c27] at h
              refine wk_aload_n C dX2_followWay_82 rfl rfl ?_
              refine wk_get C huX2_followWay_2 (hXS23 _ _ (hXS15 _ _ hl0A)).1 (fun cy => wAt_2 cy _ (hXS23 _ _ (hXS15 _ _ hl0A)).2) rfl 7 (by decide) (List.mem_of_getElem? (i := 1) rfl) rfl (congrArg some (congrArg va_rf (wf_Drawings_ways hWS23 (hXS23 _ _ (hXS15 _ _ hl0A))).1)) dX2_followWay_83 ?_
              refine wk_iload_n C dX2_followWay_86 rfl rfl ?_
              refine wk_dup2 C dX2_followWay_87 rfl rfl ?_
              obtain ⟨i28, h⟩ := h
              refine wk_iald C (wf_Drawings_ways hWS23 (hXS23 _ _ (hXS15 _ _ hl0A))).2.1 (wf_Drawings_ways hWS23 (hXS23 _ _ (hXS15 _ _ hl0A))).2.2 i28 rfl dX2_followWay_88 ?_
              refine wk_iconst C (v := 1) dX2_followWay_89 (by decide) ?_
              refine wk_iload C dX2_followWay_90 rfl ?_
              refine wk_ishl C dX2_followWay_92 rfl ?_
              refine wk_ior C dX2_followWay_93 rfl ?_
              obtain ⟨i29, h⟩ := h
              obtain ⟨S30, eS30, h⟩ := wkLt_some h
              refine wk_iast C (wf_Drawings_ways hWS23 (hXS23 _ _ (hXS15 _ _ hl0A))).2.1 (wf_Drawings_ways hWS23 (hXS23 _ _ (hXS15 _ _ hl0A))).2.2 i29 eS30.symm dX2_followWay_94 ?_
              have hWS30 : wkWF S30 := by rw [eS30]; exact hWS23
              have hXS30 : wkExt S23 S30 := by rw [eS30]; exact wkExt.rf
              refine wk_iload C dX2_followWay_95 rfl ?_
              exact E _ _ _ _ _ _ (Nat.le_refl 0) (Nat.le_refl 0) dX2_followWay_97 ⟨l5I, rfl, h, hWS30, (wkExt.tr (wkExt.tr (wkExt.tr hE hXS15) hXS23) hXS30)⟩
            · rw [if_neg c27] at h
              refine wk_iconst C (v := 0) dX2_followWay_80 (by decide) ?_
              exact E _ _ _ _ _ _ (Nat.le_refl 0) (Nat.le_refl 0) dX2_followWay_81 ⟨(0 : Int32), rfl, h, hWS23, (wkExt.tr (wkExt.tr hE hXS15) hXS23)⟩
        · rw [if_pos c19] at h
          refine wk_aload_n C dX2_followWay_29 rfl rfl ?_
          refine wk_get C huX2_followWay_2 (hXS15 _ _ hl0A).1 (fun cy => wAt_2 cy _ (hXS15 _ _ hl0A).2) rfl 0 (by decide) (List.mem_of_getElem? (i := 4) rfl) rfl (congrArg some (congrArg va_rf (wf_Drawings_near hWS15 (hXS15 _ _ hl0A)).1)) dX2_followWay_30 ?_
          refine wk_iload C dX2_followWay_33 rfl ?_
          obtain ⟨i31, h⟩ := h
          refine wk_iald C (wf_Drawings_near hWS15 (hXS15 _ _ hl0A)).2.1 (wf_Drawings_near hWS15 (hXS15 _ _ hl0A)).2.2 i31 rfl dX2_followWay_35 ?_
          refine wk_iconst C (v := 1) dX2_followWay_36 (by decide) ?_
          refine wk_iload_n C dX2_followWay_37 rfl rfl ?_
          refine wk_ishl C dX2_followWay_38 rfl ?_
          refine wk_iconst C (v := (-1)) dX2_followWay_39 (by decide) ?_
          refine wk_ixor C dX2_followWay_40 rfl ?_
          refine wk_iand C dX2_followWay_41 rfl ?_
          refine wk_callN C hR (y := yX11_lowest) (host := "Witnessworks") (As := [.int ((S15.rI (wkAd (gDrawings_near S15 l0A)) (l4I).toNatClampNeg) &&& (((1 : Int32) <<< (l3I &&& 31)) ^^^ (-1 : Int32)))]) (cnt := 1) (tX11_lowest (l := l) hWS15  h) rfl (fun w h => ⟨hbX2_followWay_X11_lowest w h, gdX11_lowest w h⟩) (by decide +kernel) (List.mem_of_getElem? (i := 8) rfl) (List.mem_of_getElem? (i := 3) rfl) (Nat.le_trans (by decide : 1 + 1 ≤ 2) hd) (by decide) ⟨by decide, by decide, by decide +kernel⟩ rfl rfl (Nat.le_of_ble_eq_true rfl) (Nat.le_refl 0) (Nat.le_refl 0) dX2_followWay_42 (fun v' S33 hp => ?_)
          obtain ⟨v32, rfl, h, hWS33, hXS33⟩ := hp
          refine wk_istore C (lv' := [some (.ref l0A), some (.int l1I), none, some (.int l3I), some (.int l4I), some (.int l5I), some (.int v32)]) dX2_followWay_45 (by decide) rfl ?_
          refine wk_iload C dX2_followWay_47 rfl ?_
          refine wk_istore_n C (lv' := [some (.ref l0A), some (.int l1I), none, some (.int l4I), some (.int l4I), some (.int l5I), some (.int v32)]) dX2_followWay_49 rfl (by decide) rfl ?_
          refine wk_iload C dX2_followWay_50 rfl ?_
          refine wk_istore C (lv' := [some (.ref l0A), some (.int l1I), none, some (.int l4I), some (.int v32), some (.int l5I), some (.int v32)]) dX2_followWay_52 (by decide) rfl ?_
          obtain ⟨x37, ex37, h⟩ := wkLt_some h
          refine wk_iinc C (lv' := [some (.ref l0A), some (.int l1I), none, some (.int l4I), some (.int v32), some (.int x37), some (.int v32)]) dX2_followWay_54 rfl (by rw [ex37]; rfl) (by decide) rfl ?_
          refine wk_goto C (tgt := 8) dX2_followWay_57 (by decide) ?_
          exact wk_forget (lv' := [some (.ref l0A), some (.int l1I), none, some (.int l4I), some (.int v32), some (.int x37), none]) (wkLs.le ⟨rfl, rfl, rfl, rfl, rfl, trivial⟩) (ih _ _ _ _ _ _ hWS33 (wkExt.tr (wkExt.tr hE hXS15) hXS33) (hXS33 _ _ (hXS15 _ _ hl0A)) h)
set_option maxHeartbeats 4000000 in
set_option maxRecDepth 100000 in
theorem tX2_followWay {l : Launch} {g : wkG} {F : Nat}  {S : wPS} {l0A : Nat} {l1I : Int32} {l2I : Int32} {Φ : (Int32 → wPS → Prop)} (hW : wkWF S) (hl0A : wkIs S l0A 2) (h : rX2_followWay F l0A l1I l2I S Φ) : wkMet l g yX2_followWay wvX2_followWay 2 0 0 [.ref l0A, .int l1I, .int l2I] S (fun v' S'' => ∃ v : Int32, v' = some (.int v) ∧ Φ v S'' ∧ wkWF S'' ∧ wkExt S S'') := by
  refine wkMet_of (ret := (some .int)) (by decide) rfl (Nat.le_of_ble_eq_true rfl) (fun X hg C hR E => ?_)
  subst hg
  have hE : wkExt S S := wkExt.rf
  have hd : 2 ≤ 2 := Nat.le_refl _
  show wkGo l X 7 0 0 0 S [some (.ref l0A), some (.int l1I), some (.int l2I), none, none, none, none] []
  have ih := tX2_followWay_go (F := F) C hR hd E F
  have h : rX2_followWay_s F (rX2_followWay_go F F) l0A l1I l2I S Φ := h
  unfold rX2_followWay_s at h
  refine wk_iload_n C dX2_followWay_0 rfl rfl ?_
  refine wk_istore_n C (lv' := [some (.ref l0A), some (.int l1I), some (.int l2I), some (.int l1I), none, none, none]) dX2_followWay_1 rfl (by decide) rfl ?_
  refine wk_iload_n C dX2_followWay_2 rfl rfl ?_
  refine wk_istore C (lv' := [some (.ref l0A), some (.int l1I), some (.int l2I), some (.int l1I), some (.int l2I), none, none]) dX2_followWay_3 (by decide) rfl ?_
  refine wk_iconst C (v := 1) dX2_followWay_5 (by decide) ?_
  refine wk_istore C (lv' := [some (.ref l0A), some (.int l1I), some (.int l2I), some (.int l1I), some (.int l2I), some (.int (1 : Int32)), none]) dX2_followWay_6 (by decide) rfl ?_
  exact wk_forget (lv' := [some (.ref l0A), some (.int l1I), none, some (.int l1I), some (.int l2I), some (.int (1 : Int32)), none]) (wkLs.le ⟨rfl, rfl, rfl, rfl, rfl, trivial⟩) (ih _ _ _ _ _ _ hW hE hl0A h)
