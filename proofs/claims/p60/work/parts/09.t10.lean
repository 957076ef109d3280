def wvX7_canBeAlone : List Cond := .code yX7_canBeAlone cX7_canBeAlone 4 (some .boolean) :: (([.fieldLink RX7 15 "Witnessworks$Networks" "best" "[I"] : List Cond) ++ ((wsX70) ++ ([])))
theorem huX7_canBeAlone_7 : ∀ w ∈ u_ws RX7 TX7 11, w ∈ wvX7_canBeAlone := fun w h => List.mem_cons_of_mem _ (List.mem_append_right _ (List.mem_append_left _ h))
theorem gdX7_canBeAlone : ∀ w ∈ wvX7_canBeAlone, wkGd w := wkGdC rfl (wkGdA (wkGdL (by decide +kernel)) (wkGdA gdX7 (fun _ h => absurd h List.not_mem_nil)))
def rX7_canBeAlone (F : Nat) (l0A : Nat) (l1I : Int32) (l2I : Int32) (S : wPS) (Φ : (Int32 → wPS → Prop)) : Prop :=
  wkLt ((((1 : Int32) <<< (l1I &&& 31)) - (1 : Int32))) fun x1 => ¬ ((x1 &&& (((1 : Int32) <<< (l2I &&& 31)) ^^^ (-1 : Int32))) < 0 ∨ S.len (wkAd (gNetworks_best S l0A)) ≤ ((x1 &&& (((1 : Int32) <<< (l2I &&& 31)) ^^^ (-1 : Int32)))).toNatClampNeg) ∧ ¬ (x1 < 0 ∨ S.len (wkAd (gNetworks_best S l0A)) ≤ (x1).toNatClampNeg) ∧ if (S.rI (wkAd (gNetworks_best S l0A)) ((x1 &&& (((1 : Int32) <<< (l2I &&& 31)) ^^^ (-1 : Int32)))).toNatClampNeg) = (S.rI (wkAd (gNetworks_best S l0A)) (x1).toNatClampNeg) then (Φ (1 : Int32) S) else (Φ (0 : Int32) S)
set_option maxHeartbeats 4000000 in
set_option maxRecDepth 100000 in
theorem tX7_canBeAlone {l : Launch} {g : wkG} {F : Nat}  {S : wPS} {l0A : Nat} {l1I : Int32} {l2I : Int32} {Φ : (Int32 → wPS → Prop)} (hW : wkWF S) (hl0A : wkIs S l0A 7) (h : rX7_canBeAlone F l0A l1I l2I S Φ) : wkMet l g yX7_canBeAlone wvX7_canBeAlone 0 0 0 [.ref l0A, .int l1I, .int l2I] S (fun v' S'' => ∃ v : Int32, v' = some (.int v) ∧ Φ v S'' ∧ wkWF S'' ∧ wkExt S S'') := by
  refine wkMet_of (ret := (some .boolean)) (by decide) rfl (Nat.le_of_ble_eq_true rfl) (fun X hg C hR E => ?_)
  subst hg
  have hE : wkExt S S := wkExt.rf
  have hd : 0 ≤ 0 := Nat.le_refl _
  show wkGo l X 4 0 0 0 S [some (.ref l0A), some (.int l1I), some (.int l2I), none] []
  unfold rX7_canBeAlone at h
  refine wk_iconst C (v := 1) dX7_canBeAlone_0 (by decide) ?_
  refine wk_iload_n C dX7_canBeAlone_1 rfl rfl ?_
  refine wk_ishl C dX7_canBeAlone_2 rfl ?_
  refine wk_iconst C (v := 1) dX7_canBeAlone_3 (by decide) ?_
  refine wk_isub C dX7_canBeAlone_4 rfl ?_
  obtain ⟨x1, ex1, h⟩ := wkLt_some h
  refine wk_topi ex1 ?_
  refine wk_istore_n C (lv' := [some (.ref l0A), some (.int l1I), some (.int l2I), some (.int x1)]) dX7_canBeAlone_5 rfl (by decide) rfl ?_
  refine wk_aload_n C dX7_canBeAlone_6 rfl rfl ?_
  refine wk_get C huX7_canBeAlone_7 hl0A.1 (fun cy => wAt_7 cy _ hl0A.2) rfl 1 (by decide) (List.mem_of_getElem? (i := 1) rfl) rfl (congrArg some (congrArg va_rf (wf_Networks_best hW hl0A).1)) dX7_canBeAlone_7 ?_
  refine wk_iload_n C dX7_canBeAlone_10 rfl rfl ?_
  refine wk_iconst C (v := 1) dX7_canBeAlone_11 (by decide) ?_
  refine wk_iload_n C dX7_canBeAlone_12 rfl rfl ?_
  refine wk_ishl C dX7_canBeAlone_13 rfl ?_
  refine wk_iconst C (v := (-1)) dX7_canBeAlone_14 (by decide) ?_
  refine wk_ixor C dX7_canBeAlone_15 rfl ?_
  refine wk_iand C dX7_canBeAlone_16 rfl ?_
  obtain ⟨i2, h⟩ := h
  refine wk_iald C (wf_Networks_best hW hl0A).2.1 (wf_Networks_best hW hl0A).2.2 i2 rfl dX7_canBeAlone_17 ?_
  refine wk_aload_n C dX7_canBeAlone_18 rfl rfl ?_
  refine wk_get C huX7_canBeAlone_7 hl0A.1 (fun cy => wAt_7 cy _ hl0A.2) rfl 1 (by decide) (List.mem_of_getElem? (i := 1) rfl) rfl (congrArg some (congrArg va_rf (wf_Networks_best hW hl0A).1)) dX7_canBeAlone_19 ?_
  refine wk_iload_n C dX7_canBeAlone_22 rfl rfl ?_
  obtain ⟨i3, h⟩ := h
  refine wk_iald C (wf_Networks_best hW hl0A).2.1 (wf_Networks_best hW hl0A).2.2 i3 rfl dX7_canBeAlone_23 ?_
  refine wk_icmp_ne C (tgt := 31) dX7_canBeAlone_24 (by decide) (fun c4 => ?_) (fun c4 => ?_)
  · rw [if_neg c4] at h
    refine wk_iconst C (v := 0) dX7_canBeAlone_31 (by decide) ?_
    exact E _ _ _ _ _ _ (Nat.le_refl 0) (Nat.le_refl 0) dX7_canBeAlone_32 rfl ⟨(0 : Int32), rfl, h, hW, hE⟩
  · rw [if_pos c4] at h
    refine wk_iconst C (v := 1) dX7_canBeAlone_27 (by decide) ?_
    refine wk_goto C (tgt := 32) dX7_canBeAlone_28 (by decide) ?_
    exact E _ _ _ _ _ _ (Nat.le_refl 0) (Nat.le_refl 0) dX7_canBeAlone_32 rfl ⟨(1 : Int32), rfl, h, hW, hE⟩
def wvX7_loadFlows : List Cond := .code yX7_loadFlows cX7_loadFlows 3 none :: (([.fieldLink RX7 147 "Witnessworks$Networks" "itemCount" "I", .fieldLink RX7 18 "Witnessworks$Networks" "from" "[I", .methodLink RX7 154 yX3_at, .instanceMethod yX3_at, .selects RX3 yX3_at yX3_at, .initialized RX3, .fieldLink RX7 21 "Witnessworks$Networks" "to" "[I", .fieldLink RX7 24 "Witnessworks$Networks" "caps" "[I", .fieldLink RX7 40 "Witnessworks$Entry" "size" "I", .fieldLink RX7 138 "Witnessworks$Networks" "nodeCount" "I", .fieldLink RX7 153 "Witnessworks$Entry" "itemCount" "I"] : List Cond) ++ ((wsX70 ++ (wsX30)) ++ (wvX3_at)))
theorem huX7_loadFlows_7 : ∀ w ∈ u_ws RX7 TX7 11, w ∈ wvX7_loadFlows := fun w h => List.mem_cons_of_mem _ (List.mem_append_right _ (List.mem_append_left _ (List.mem_append_left _ h)))
theorem huX7_loadFlows_3 : ∀ w ∈ u_ws RX3 TX3 17, w ∈ wvX7_loadFlows := fun w h => List.mem_cons_of_mem _ (List.mem_append_right _ (List.mem_append_left _ (List.mem_append_right _ h)))
theorem hbX7_loadFlows_X3_at : ∀ w ∈ wvX3_at, w ∈ wvX7_loadFlows := fun w h => List.mem_cons_of_mem _ (List.mem_append_right _ (List.mem_append_right _ h))
theorem gdX7_loadFlows : ∀ w ∈ wvX7_loadFlows, wkGd w := wkGdC rfl (wkGdA (wkGdL (by decide +kernel)) (wkGdA (wkGdA gdX7 gdX3) gdX3_at))
def rX7_loadFlows_b0 (F : Nat) (rec : Nat → Nat → Nat → Int32 → wPS → (Unit → wPS → Prop) → Prop) (l0A : Nat) (l1A : Nat) (l2I : Int32) (S : wPS) (Φ : (Unit → wPS → Prop)) : Prop :=
  if (gNetworks_itemCount S l0A) ≤ l2I then (Φ () S) else (rX3_at F l1A l2I (0 : Int32) S fun v2 S3 => ¬ (l2I < 0 ∨ S3.len (wkAd (gNetworks_from S l0A)) ≤ (l2I).toNatClampNeg) ∧ wkLt (wuI S3 (wkAd (gNetworks_from S l0A)) l2I v2) fun S8 => rX3_at F l1A l2I (1 : Int32) S8 fun v9 S10 => ¬ (l2I < 0 ∨ S10.len (wkAd (gNetworks_to S8 l0A)) ≤ (l2I).toNatClampNeg) ∧ wkLt (wuI S10 (wkAd (gNetworks_to S8 l0A)) l2I v9) fun S15 => rX3_at F l1A l2I (2 : Int32) S15 fun v16 S17 => ¬ (l2I < 0 ∨ S17.len (wkAd (gNetworks_caps S15 l0A)) ≤ (l2I).toNatClampNeg) ∧ wkLt (wuI S17 (wkAd (gNetworks_caps S15 l0A)) l2I v16) fun S22 => wkLt (l2I + (1 : Int32)) fun x23 => rec 0 l0A l1A x23 S22 Φ)
def rX7_loadFlows_go (F : Nat) : Nat → Nat → Nat → Nat → Int32 → wPS → (Unit → wPS → Prop) → Prop
  | 0, _, _, _, _, _, _ => False
  | k' + 1, lab, l0A, l1A, l2I, S, Φ => if lab = 0 then rX7_loadFlows_b0 F (rX7_loadFlows_go F k') l0A l1A l2I S Φ else False
def rX7_loadFlows_s (F : Nat) (rec : Nat → Nat → Nat → Int32 → wPS → (Unit → wPS → Prop) → Prop) (l0A : Nat) (l1A : Nat) (S : wPS) (Φ : (Unit → wPS → Prop)) : Prop :=
  wkLt (wu_Networks_nodeCount S l0A (gEntry_size S l1A)) fun S24 => wkLt (wu_Networks_itemCount S24 l0A (gEntry_itemCount S24 l1A)) fun S25 => rec 0 l0A l1A (0 : Int32) S25 Φ
def rX7_loadFlows (F : Nat) (l0A : Nat) (l1A : Nat) (S : wPS) (Φ : (Unit → wPS → Prop)) : Prop := rX7_loadFlows_s F (rX7_loadFlows_go F F) l0A l1A S Φ
set_option maxHeartbeats 4000000 in
set_option maxRecDepth 100000 in
theorem tX7_loadFlows_go {l : Launch} {X : wkX} {d F : Nat} {S0 : wPS} {Φ : (Unit → wPS → Prop)} (C : wkC X cX7_loadFlows RX7 3 wvX7_loadFlows) (hR : wkRm X d 0 0) (hd : 1 ≤ d) (E : wkEnd l X cX7_loadFlows 3 none 0 0 (fun v' S'' => ∃ v : Unit, v' = none ∧ Φ v S'' ∧ wkWF S'' ∧ wkExt S0 S'')) : ∀ k' : Nat, (∀ (l0A : Nat) (l1A : Nat) (l2I : Int32) (S : wPS), wkWF S → wkExt S0 S → wkIs S l0A 7 → wkIs S l1A 3 → rX7_loadFlows_go F k' 0 l0A l1A l2I S Φ → wkGo l X 3 0 0 18 S [some (.ref l0A), some (.ref l1A), some (.int l2I)] []) := by
  intro k'
  induction k' with
  | zero => exact fun l0A l1A l2I S hW hE hl0A hl1A h => h.elim
  | succ k' ih =>
    · intro l0A l1A l2I S hW hE hl0A hl1A h
      have h : rX7_loadFlows_b0 F (rX7_loadFlows_go F k') l0A l1A l2I S Φ := by
        rw [rX7_loadFlows_go, if_pos (rfl : (0 : Nat) = 0)] at h
        exact h
      unfold rX7_loadFlows_b0 at h
      refine wk_iload_n C dX7_loadFlows_18 rfl rfl ?_
      refine wk_aload_n C dX7_loadFlows_19 rfl rfl ?_
      refine wk_get C (v := .int (gNetworks_itemCount S l0A)) huX7_loadFlows_7 hl0A.1 (fun cy => wAt_7 cy _ hl0A.2) rfl 9 (by decide) (List.mem_of_getElem? (i := 1) rfl) rfl rfl dX7_loadFlows_20 ?_
      refine wk_icmp_ge C (tgt := 68) dX7_loadFlows_23 (by decide) (fun c1 => ?_) (fun c1 => ?_)
      · rw [if_pos c1] at h
        exact E _ _ _ _ _ (Nat.le_refl 0) (Nat.le_refl 0) dX7_loadFlows_68 ⟨(), rfl, h, hW, hE⟩
      · rw [if_neg c1] at h
        refine wk_aload_n C dX7_loadFlows_26 rfl rfl ?_
        refine wk_get C huX7_loadFlows_7 hl0A.1 (fun cy => wAt_7 cy _ hl0A.2) rfl 2 (by decide) (List.mem_of_getElem? (i := 2) rfl) rfl (congrArg some (congrArg va_rf (wf_Networks_from hW hl0A).1)) dX7_loadFlows_27 ?_
        refine wk_iload_n C dX7_loadFlows_30 rfl rfl ?_
        refine wk_aload_n C dX7_loadFlows_31 rfl rfl ?_
        refine wk_iload_n C dX7_loadFlows_32 rfl rfl ?_
        refine wk_iconst C (v := 0) dX7_loadFlows_33 (by decide) ?_
        refine wk_callV C hR (As := [.int l2I, .int (0 : Int32)]) (cnt := 2) (tX3_at (l := l) hW hl1A h) rfl (wkGoodV (List.mem_of_getElem? (i := 3) rfl) (List.mem_of_getElem? (i := 4) rfl) (List.mem_of_getElem? (i := 5) rfl) (List.mem_of_getElem? (i := 6) rfl) hbX7_loadFlows_X3_at gdX3_at) (Nat.le_trans (by decide : 0 + 1 ≤ 1) hd) (by decide) hl1A.1 (fun cy => wAt_3 cy _ hl1A.2) rfl ⟨by decide, by decide, by decide +kernel⟩ rfl rfl (Nat.le_of_ble_eq_true rfl) (Nat.le_refl 0) (Nat.le_refl 0) dX7_loadFlows_34 (fun v' S3 hp => ?_)
        obtain ⟨v2, rfl, h, hWS3, hXS3⟩ := hp
        obtain ⟨i7, h⟩ := h
        obtain ⟨S8, eS8, h⟩ := wkLt_some h
        refine wk_iast C (hXS3 _ _ (wf_Networks_from hW hl0A).2).1 (hXS3 _ _ (wf_Networks_from hW hl0A).2).2 i7 eS8.symm dX7_loadFlows_37 ?_
        have hWS8 : wkWF S8 := by rw [eS8]; exact hWS3
        have hXS8 : wkExt S3 S8 := by rw [eS8]; exact wkExt.rf
        refine wk_aload_n C dX7_loadFlows_38 rfl rfl ?_
        refine wk_get C huX7_loadFlows_7 (hXS8 _ _ (hXS3 _ _ hl0A)).1 (fun cy => wAt_7 cy _ (hXS8 _ _ (hXS3 _ _ hl0A)).2) rfl 3 (by decide) (List.mem_of_getElem? (i := 7) rfl) rfl (congrArg some (congrArg va_rf (wf_Networks_to hWS8 (hXS8 _ _ (hXS3 _ _ hl0A))).1)) dX7_loadFlows_39 ?_
        refine wk_iload_n C dX7_loadFlows_42 rfl rfl ?_
        refine wk_aload_n C dX7_loadFlows_43 rfl rfl ?_
        refine wk_iload_n C dX7_loadFlows_44 rfl rfl ?_
        refine wk_iconst C (v := 1) dX7_loadFlows_45 (by decide) ?_
        refine wk_callV C hR (As := [.int l2I, .int (1 : Int32)]) (cnt := 2) (tX3_at (l := l) hWS8 (hXS8 _ _ (hXS3 _ _ hl1A)) h) rfl (wkGoodV (List.mem_of_getElem? (i := 3) rfl) (List.mem_of_getElem? (i := 4) rfl) (List.mem_of_getElem? (i := 5) rfl) (List.mem_of_getElem? (i := 6) rfl) hbX7_loadFlows_X3_at gdX3_at) (Nat.le_trans (by decide : 0 + 1 ≤ 1) hd) (by decide) (hXS8 _ _ (hXS3 _ _ hl1A)).1 (fun cy => wAt_3 cy _ (hXS8 _ _ (hXS3 _ _ hl1A)).2) rfl ⟨by decide, by decide, by decide +kernel⟩ rfl rfl (Nat.le_of_ble_eq_true rfl) (Nat.le_refl 0) (Nat.le_refl 0) dX7_loadFlows_46 (fun v' S10 hp => ?_)
        obtain ⟨v9, rfl, h, hWS10, hXS10⟩ := hp
        obtain ⟨i14, h⟩ := h
        obtain ⟨S15, eS15, h⟩ := wkLt_some h
        refine wk_iast C (hXS10 _ _ (wf_Networks_to hWS8 (hXS8 _ _ (hXS3 _ _ hl0A))).2).1 (hXS10 _ _ (wf_Networks_to hWS8 (hXS8 _ _ (hXS3 _ _ hl0A))).2).2 i14 eS15.symm dX7_loadFlows_49 ?_
        have hWS15 : wkWF S15 := by rw [eS15]; exact hWS10
        have hXS15 : wkExt S10 S15 := by rw [eS15]; exact wkExt.rf
        refine wk_aload_n C dX7_loadFlows_50 rfl rfl ?_
        refine wk_get C huX7_loadFlows_7 (hXS15 _ _ (hXS10 _ _ (hXS8 _ _ (hXS3 _ _ hl0A)))).1 (fun cy => wAt_7 cy _ (hXS15 _ _ (hXS10 _ _ (hXS8 _ _ (hXS3 _ _ hl0A)))).2) rfl 4 (by decide) (List.mem_of_getElem? (i := 8) rfl) rfl (congrArg some (congrArg va_rf (wf_Networks_caps hWS15 (hXS15 _ _ (hXS10 _ _ (hXS8 _ _ (hXS3 _ _ hl0A))))).1)) dX7_loadFlows_51 ?_
        refine wk_iload_n C dX7_loadFlows_54 rfl rfl ?_
        refine wk_aload_n C dX7_loadFlows_55 rfl rfl ?_
        refine wk_iload_n C dX7_loadFlows_56 rfl rfl ?_
        refine wk_iconst C (v := 2) dX7_loadFlows_57 (by decide) ?_
        refine wk_callV C hR (As := [.int l2I, .int (2 : Int32)]) (cnt := 2) (tX3_at (l := l) hWS15 (hXS15 _ _ (hXS10 _ _ (hXS8 _ _ (hXS3 _ _ hl1A)))) h) rfl (wkGoodV (List.mem_of_getElem? (i := 3) rfl) (List.mem_of_getElem? (i := 4) rfl) (List.mem_of_getElem? (i := 5) rfl) (List.mem_of_getElem? (i := 6) rfl) hbX7_loadFlows_X3_at gdX3_at) (Nat.le_trans (by decide : 0 + 1 ≤ 1) hd) (by decide) (hXS15 _ _ (hXS10 _ _ (hXS8 _ _ (hXS3 _ _ hl1A)))).1 (fun cy => wAt_3 cy _ (hXS15 _ _ (hXS10 _ _ (hXS8 _ _ (hXS3 _ _ hl1A)))).2) rfl ⟨by decide, by decide, by decide +kernel⟩ rfl rfl (Nat.le_of_ble_eq_true rfl) (Nat.le_refl 0) (Nat.le_refl 0) dX7_loadFlows_58 (fun v' S17 hp => ?_)
        obtain ⟨v16, rfl, h, hWS17, hXS17⟩ := hp
        obtain ⟨i21, h⟩ := h
        obtain ⟨S22, eS22, h⟩ := wkLt_some h
        refine wk_iast C (hXS17 _ _ (wf_Networks_caps hWS15 (hXS15 _ _ (hXS10 _ _ (hXS8 _ _ (hXS3 _ _ hl0A))))).2).1 (hXS17 _ _ (wf_Networks_caps hWS15 (hXS15 _ _ (hXS10 _ _ (hXS8 _ _ (hXS3 _ _ hl0A))))).2).2 i21 eS22.symm dX7_loadFlows_61 ?_
        have hWS22 : wkWF S22 := by rw [eS22]; exact hWS17
        have hXS22 : wkExt S17 S22 := by rw [eS22]; exact wkExt.rf
        obtain ⟨x23, ex23, h⟩ := wkLt_some h
        refine wk_iinc C (lv' := [some (.ref l0A), some (.ref l1A), some (.int x23)]) dX7_loadFlows_62 rfl (by rw [ex23]; rfl) (by decide) rfl ?_
        refine wk_goto C (tgt := 18) dX7_loadFlows_65 (by decide) ?_
        exact wk_forget (lv' := [some (.ref l0A), some (.ref l1A), some (.int x23)]) (wkLs.le ⟨rfl, rfl, rfl, trivial⟩) (ih _ _ _ _ hWS22 (wkExt.tr (wkExt.tr (wkExt.tr (wkExt.tr (wkExt.tr (wkExt.tr hE hXS3) hXS8) hXS10) hXS15) hXS17) hXS22) (hXS22 _ _ (hXS17 _ _ (hXS15 _ _ (hXS10 _ _ (hXS8 _ _ (hXS3 _ _ hl0A)))))) (hXS22 _ _ (hXS17 _ _ (hXS15 _ _ (hXS10 _ _ (hXS8 _ _ (hXS3 _ _ hl1A)))))) h)
set_option maxHeartbeats 4000000 in
set_option maxRecDepth 100000 in
theorem tX7_loadFlows {l : Launch} {g : wkG} {F : Nat}  {S : wPS} {l0A : Nat} {l1A : Nat} {Φ : (Unit → wPS → Prop)} (hW : wkWF S) (hl0A : wkIs S l0A 7) (hl1A : wkIs S l1A 3) (h : rX7_loadFlows F l0A l1A S Φ) : wkMet l g yX7_loadFlows wvX7_loadFlows 1 0 0 [.ref l0A, .ref l1A] S (fun v' S'' => ∃ v : Unit, v' = none ∧ Φ v S'' ∧ wkWF S'' ∧ wkExt S S'') := by
  refine wkMet_of (ret := none) (by decide) rfl (Nat.le_of_ble_eq_true rfl) (fun X hg C hR E => ?_)
  subst hg
  have hE : wkExt S S := wkExt.rf
  have hd : 1 ≤ 1 := Nat.le_refl _
  show wkGo l X 3 0 0 0 S [some (.ref l0A), some (.ref l1A), none] []
  have ih := tX7_loadFlows_go (F := F) C hR hd E F
  have h : rX7_loadFlows_s F (rX7_loadFlows_go F F) l0A l1A S Φ := h
  unfold rX7_loadFlows_s at h
  refine wk_aload_n C dX7_loadFlows_0 rfl rfl ?_
  refine wk_aload_n C dX7_loadFlows_1 rfl rfl ?_
  refine wk_get C (v := .int (gEntry_size S l1A)) huX7_loadFlows_3 hl1A.1 (fun cy => wAt_3 cy _ hl1A.2) rfl 1 (by decide) (List.mem_of_getElem? (i := 9) rfl) rfl rfl dX7_loadFlows_2 ?_
  obtain ⟨S24, eS24, h⟩ := wkLt_some h
  refine wk_put C (S' := S24) huX7_loadFlows_7 hl0A.1 (fun cy => wAt_7 cy _ hl0A.2) rfl 8 (by decide) (List.mem_of_getElem? (i := 10) rfl) rfl tyX7_ok nmX7 rfl (ty := .int) rfl rfl rfl (by show 8 < 11; decide) (fun cy b => by rw [eS24]; exact wSt_7_8 cy _ hl0A.2 _ b) (by rw [eS24]) dX7_loadFlows_5 ?_
  have hWS24 : wkWF S24 := by rw [eS24]; exact hW
  have hXS24 : wkExt S S24 := by rw [eS24]; exact wkExt.rf
  refine wk_aload_n C dX7_loadFlows_8 rfl rfl ?_
  refine wk_aload_n C dX7_loadFlows_9 rfl rfl ?_
  refine wk_get C (v := .int (gEntry_itemCount S24 l1A)) huX7_loadFlows_3 (hXS24 _ _ hl1A).1 (fun cy => wAt_3 cy _ (hXS24 _ _ hl1A).2) rfl 6 (by decide) (List.mem_of_getElem? (i := 11) rfl) rfl rfl dX7_loadFlows_10 ?_
  obtain ⟨S25, eS25, h⟩ := wkLt_some h
  refine wk_put C (S' := S25) huX7_loadFlows_7 (hXS24 _ _ hl0A).1 (fun cy => wAt_7 cy _ (hXS24 _ _ hl0A).2) rfl 9 (by decide) (List.mem_of_getElem? (i := 1) rfl) rfl tyX7_ok nmX7 rfl (ty := .int) rfl rfl rfl (by show 9 < 11; decide) (fun cy b => by rw [eS25]; exact wSt_7_9 cy _ (hXS24 _ _ hl0A).2 _ b) (by rw [eS25]) dX7_loadFlows_13 ?_
  have hWS25 : wkWF S25 := by rw [eS25]; exact hWS24
  have hXS25 : wkExt S24 S25 := by rw [eS25]; exact wkExt.rf
  refine wk_iconst C (v := 0) dX7_loadFlows_16 (by decide) ?_
  refine wk_istore_n C (lv' := [some (.ref l0A), some (.ref l1A), some (.int (0 : Int32))]) dX7_loadFlows_17 rfl (by decide) rfl ?_
  exact wk_forget (lv' := [some (.ref l0A), some (.ref l1A), some (.int (0 : Int32))]) (wkLs.le ⟨rfl, rfl, rfl, trivial⟩) (ih _ _ _ _ hWS25 (wkExt.tr (wkExt.tr hE hXS24) hXS25) (hXS25 _ _ (hXS24 _ _ hl0A)) (hXS25 _ _ (hXS24 _ _ hl1A)) h)
def wvX7_goBack : List Cond := .code yX7_goBack cX7_goBack 3 (some .int) :: (([.fieldLink RX7 30 "Witnessworks$Networks" "via" "[I", .fieldLink RX7 27 "Witnessworks$Networks" "flow" "[I", .fieldLink RX7 21 "Witnessworks$Networks" "to" "[I", .fieldLink RX7 18 "Witnessworks$Networks" "from" "[I"] : List Cond) ++ ((wsX70) ++ ([])))
theorem huX7_goBack_7 : ∀ w ∈ u_ws RX7 TX7 11, w ∈ wvX7_goBack := fun w h => List.mem_cons_of_mem _ (List.mem_append_right _ (List.mem_append_left _ h))
theorem gdX7_goBack : ∀ w ∈ wvX7_goBack, wkGd w := wkGdC rfl (wkGdA (wkGdL (by decide +kernel)) (wkGdA gdX7 (fun _ h => absurd h List.not_mem_nil)))
def rX7_goBack (F : Nat) (l0A : Nat) (l1I : Int32) (S : wPS) (Φ : (Int32 → wPS → Prop)) : Prop :=
  ¬ (l1I < 0 ∨ S.len (wkAd (gNetworks_via S l0A)) ≤ (l1I).toNatClampNeg) ∧ wkLt (((S.rI (wkAd (gNetworks_via S l0A)) (l1I).toNatClampNeg) / (2 : Int32))) fun x2 => ¬ (l1I < 0 ∨ S.len (wkAd (gNetworks_via S l0A)) ≤ (l1I).toNatClampNeg) ∧ if ((S.rI (wkAd (gNetworks_via S l0A)) (l1I).toNatClampNeg) - (S.rI (wkAd (gNetworks_via S l0A)) (l1I).toNatClampNeg) / (2 : Int32) * (2 : Int32)) = 0 then (¬ (x2 < 0 ∨ S.len (wkAd (gNetworks_flow S l0A)) ≤ (x2).toNatClampNeg) ∧ ¬ (x2 < 0 ∨ S.len (wkAd (gNetworks_flow S l0A)) ≤ (x2).toNatClampNeg) ∧ wkLt (wuI S (wkAd (gNetworks_flow S l0A)) x2 ((S.rI (wkAd (gNetworks_flow S l0A)) (x2).toNatClampNeg) + (1 : Int32))) fun S11 => ¬ (x2 < 0 ∨ S11.len (wkAd (gNetworks_from S11 l0A)) ≤ (x2).toNatClampNeg) ∧ Φ (S11.rI (wkAd (gNetworks_from S11 l0A)) (x2).toNatClampNeg) S11) else (¬ (x2 < 0 ∨ S.len (wkAd (gNetworks_flow S l0A)) ≤ (x2).toNatClampNeg) ∧ ¬ (x2 < 0 ∨ S.len (wkAd (gNetworks_flow S l0A)) ≤ (x2).toNatClampNeg) ∧ wkLt (wuI S (wkAd (gNetworks_flow S l0A)) x2 ((S.rI (wkAd (gNetworks_flow S l0A)) (x2).toNatClampNeg) - (1 : Int32))) fun S7 => ¬ (x2 < 0 ∨ S7.len (wkAd (gNetworks_to S7 l0A)) ≤ (x2).toNatClampNeg) ∧ Φ (S7.rI (wkAd (gNetworks_to S7 l0A)) (x2).toNatClampNeg) S7)
set_option maxHeartbeats 4000000 in
set_option maxRecDepth 100000 in
theorem tX7_goBack {l : Launch} {g : wkG} {F : Nat}  {S : wPS} {l0A : Nat} {l1I : Int32} {Φ : (Int32 → wPS → Prop)} (hW : wkWF S) (hl0A : wkIs S l0A 7) (h : rX7_goBack F l0A l1I S Φ) : wkMet l g yX7_goBack wvX7_goBack 0 0 0 [.ref l0A, .int l1I] S (fun v' S'' => ∃ v : Int32, v' = some (.int v) ∧ Φ v S'' ∧ wkWF S'' ∧ wkExt S S'') := by
  refine wkMet_of (ret := (some .int)) (by decide) rfl (Nat.le_of_ble_eq_true rfl) (fun X hg C hR E => ?_)
  subst hg
  have hE : wkExt S S := wkExt.rf
  have hd : 0 ≤ 0 := Nat.le_refl _
  show wkGo l X 3 0 0 0 S [some (.ref l0A), some (.int l1I), none] []
  unfold rX7_goBack at h
  refine wk_aload_n C dX7_goBack_0 rfl rfl ?_
  refine wk_get C huX7_goBack_7 hl0A.1 (fun cy => wAt_7 cy _ hl0A.2) rfl 6 (by decide) (List.mem_of_getElem? (i := 1) rfl) rfl (congrArg some (congrArg va_rf (wf_Networks_via hW hl0A).1)) dX7_goBack_1 ?_
  refine wk_iload_n C dX7_goBack_4 rfl rfl ?_
  obtain ⟨i1, h⟩ := h
  refine wk_iald C (wf_Networks_via hW hl0A).2.1 (wf_Networks_via hW hl0A).2.2 i1 rfl dX7_goBack_5 ?_
  refine wk_iconst C (v := 2) dX7_goBack_6 (by decide) ?_
  refine wk_idiv C dX7_goBack_7 (by decide) rfl ?_
  obtain ⟨x2, ex2, h⟩ := wkLt_some h
  refine wk_topi ex2 ?_
  refine wk_istore_n C (lv' := [some (.ref l0A), some (.int l1I), some (.int x2)]) dX7_goBack_8 rfl (by decide) rfl ?_
  refine wk_aload_n C dX7_goBack_9 rfl rfl ?_
  refine wk_get C huX7_goBack_7 hl0A.1 (fun cy => wAt_7 cy _ hl0A.2) rfl 6 (by decide) (List.mem_of_getElem? (i := 1) rfl) rfl (congrArg some (congrArg va_rf (wf_Networks_via hW hl0A).1)) dX7_goBack_10 ?_
  refine wk_iload_n C dX7_goBack_13 rfl rfl ?_
  obtain ⟨i3, h⟩ := h
  refine wk_iald C (wf_Networks_via hW hl0A).2.1 (wf_Networks_via hW hl0A).2.2 i3 rfl dX7_goBack_14 ?_
  refine wk_iconst C (v := 2) dX7_goBack_15 (by decide) ?_
  refine wk_irem C dX7_goBack_16 (by decide) rfl ?_
  refine wk_if_ne C (tgt := 37) dX7_goBack_17 (by decide) (fun c4 => ?_) (fun c4 => ?_)
  · rw [if_neg c4] at h
    refine wk_aload_n C dX7_goBack_37 rfl rfl ?_
    refine wk_get C huX7_goBack_7 hl0A.1 (fun cy => wAt_7 cy _ hl0A.2) rfl 5 (by decide) (List.mem_of_getElem? (i := 2) rfl) rfl (congrArg some (congrArg va_rf (wf_Networks_flow hW hl0A).1)) dX7_goBack_38 ?_
    refine wk_iload_n C dX7_goBack_41 rfl rfl ?_
    refine wk_dup2 C dX7_goBack_42 rfl rfl ?_
    obtain ⟨i5, h⟩ := h
    refine wk_iald C (wf_Networks_flow hW hl0A).2.1 (wf_Networks_flow hW hl0A).2.2 i5 rfl dX7_goBack_43 ?_
    refine wk_iconst C (v := 1) dX7_goBack_44 (by decide) ?_
    refine wk_isub C dX7_goBack_45 rfl ?_
    obtain ⟨i6, h⟩ := h
    obtain ⟨S7, eS7, h⟩ := wkLt_some h
    refine wk_iast C (wf_Networks_flow hW hl0A).2.1 (wf_Networks_flow hW hl0A).2.2 i6 eS7.symm dX7_goBack_46 ?_
    have hWS7 : wkWF S7 := by rw [eS7]; exact hW
    have hXS7 : wkExt S S7 := by rw [eS7]; exact wkExt.rf
    refine wk_aload_n C dX7_goBack_47 rfl rfl ?_
    refine wk_get C huX7_goBack_7 (hXS7 _ _ hl0A).1 (fun cy => wAt_7 cy _ (hXS7 _ _ hl0A).2) rfl 3 (by decide) (List.mem_of_getElem? (i := 3) rfl) rfl (congrArg some (congrArg va_rf (wf_Networks_to hWS7 (hXS7 _ _ hl0A)).1)) dX7_goBack_48 ?_
    refine wk_iload_n C dX7_goBack_51 rfl rfl ?_
    obtain ⟨i8, h⟩ := h
    refine wk_iald C (wf_Networks_to hWS7 (hXS7 _ _ hl0A)).2.1 (wf_Networks_to hWS7 (hXS7 _ _ hl0A)).2.2 i8 rfl dX7_goBack_52 ?_
    exact E _ _ _ _ _ _ (Nat.le_refl 0) (Nat.le_refl 0) dX7_goBack_53 ⟨(S7.rI (wkAd (gNetworks_to S7 l0A)) (x2).toNatClampNeg), rfl, h, hWS7, (wkExt.tr hE hXS7)⟩
  · rw [if_pos c4] at h
    refine wk_aload_n C dX7_goBack_20 rfl rfl ?_
    refine wk_get C huX7_goBack_7 hl0A.1 (fun cy => wAt_7 cy _ hl0A.2) rfl 5 (by decide) (List.mem_of_getElem? (i := 2) rfl) rfl (congrArg some (congrArg va_rf (wf_Networks_flow hW hl0A).1)) dX7_goBack_21 ?_
    refine wk_iload_n C dX7_goBack_24 rfl rfl ?_
    refine wk_dup2 C dX7_goBack_25 rfl rfl ?_
    obtain ⟨i9, h⟩ := h
    refine wk_iald C (wf_Networks_flow hW hl0A).2.1 (wf_Networks_flow hW hl0A).2.2 i9 rfl dX7_goBack_26 ?_
    refine wk_iconst C (v := 1) dX7_goBack_27 (by decide) ?_
    refine wk_iadd C dX7_goBack_28 rfl ?_
    obtain ⟨i10, h⟩ := h
    obtain ⟨S11, eS11, h⟩ := wkLt_some h
    refine wk_iast C (wf_Networks_flow hW hl0A).2.1 (wf_Networks_flow hW hl0A).2.2 i10 eS11.symm dX7_goBack_29 ?_
    have hWS11 : wkWF S11 := by rw [eS11]; exact hW
    have hXS11 : wkExt S S11 := by rw [eS11]; exact wkExt.rf
    refine wk_aload_n C dX7_goBack_30 rfl rfl ?_
    refine wk_get C huX7_goBack_7 (hXS11 _ _ hl0A).1 (fun cy => wAt_7 cy _ (hXS11 _ _ hl0A).2) rfl 2 (by decide) (List.mem_of_getElem? (i := 4) rfl) rfl (congrArg some (congrArg va_rf (wf_Networks_from hWS11 (hXS11 _ _ hl0A)).1)) dX7_goBack_31 ?_
    refine wk_iload_n C dX7_goBack_34 rfl rfl ?_
    obtain ⟨i12, h⟩ := h
    refine wk_iald C (wf_Networks_from hWS11 (hXS11 _ _ hl0A)).2.1 (wf_Networks_from hWS11 (hXS11 _ _ hl0A)).2.2 i12 rfl dX7_goBack_35 ?_
    exact E _ _ _ _ _ _ (Nat.le_refl 0) (Nat.le_refl 0) dX7_goBack_36 ⟨(S11.rI (wkAd (gNetworks_from S11 l0A)) (x2).toNatClampNeg), rfl, h, hWS11, (wkExt.tr hE hXS11)⟩
def wvX8_rightSide : List Cond := .code yX8_rightSide cX8_rightSide 2 (some .int) :: (([.fieldLink RX8 71 "Witnessworks$Entry" "itemCount" "I", .methodLink RX8 77 yX3_at, .instanceMethod yX3_at, .selects RX3 yX3_at yX3_at, .initialized RX3, .fieldLink RX8 74 "Witnessworks$Entry" "boundNow" "I"] : List Cond) ++ ((wsX30) ++ (wvX3_at)))
theorem huX8_rightSide_3 : ∀ w ∈ u_ws RX3 TX3 17, w ∈ wvX8_rightSide := fun w h => List.mem_cons_of_mem _ (List.mem_append_right _ (List.mem_append_left _ h))
theorem hbX8_rightSide_X3_at : ∀ w ∈ wvX3_at, w ∈ wvX8_rightSide := fun w h => List.mem_cons_of_mem _ (List.mem_append_right _ (List.mem_append_right _ h))
theorem gdX8_rightSide : ∀ w ∈ wvX8_rightSide, wkGd w := wkGdC rfl (wkGdA (wkGdL (by decide +kernel)) (wkGdA gdX3 gdX3_at))
def rX8_rightSide (F : Nat) (l0A : Nat) (l1I : Int32) (S : wPS) (Φ : (Int32 → wPS → Prop)) : Prop :=
  if l1I = ((gEntry_itemCount S l0A) - (1 : Int32)) then (Φ (gEntry_boundNow S l0A) S) else (rX3_at F l0A l1I (4 : Int32) S fun v2 S3 => Φ v2 S3)
set_option maxHeartbeats 4000000 in
set_option maxRecDepth 100000 in
theorem tX8_rightSide {l : Launch} {g : wkG} {F : Nat}  {S : wPS} {l0A : Nat} {l1I : Int32} {Φ : (Int32 → wPS → Prop)} (hW : wkWF S) (hl0A : wkIs S l0A 3) (h : rX8_rightSide F l0A l1I S Φ) : wkMet l g yX8_rightSide wvX8_rightSide 1 0 0 [.ref l0A, .int l1I] S (fun v' S'' => ∃ v : Int32, v' = some (.int v) ∧ Φ v S'' ∧ wkWF S'' ∧ wkExt S S'') := by
  refine wkMet_of (ret := (some .int)) (by decide) rfl (Nat.le_of_ble_eq_true rfl) (fun X hg C hR E => ?_)
  subst hg
  have hE : wkExt S S := wkExt.rf
  have hd : 1 ≤ 1 := Nat.le_refl _
  show wkGo l X 2 0 0 0 S [some (.ref l0A), some (.int l1I)] []
  unfold rX8_rightSide at h
  refine wk_iload_n C dX8_rightSide_0 rfl rfl ?_
  refine wk_aload_n C dX8_rightSide_1 rfl rfl ?_
  refine wk_get C (v := .int (gEntry_itemCount S l0A)) huX8_rightSide_3 hl0A.1 (fun cy => wAt_3 cy _ hl0A.2) rfl 6 (by decide) (List.mem_of_getElem? (i := 1) rfl) rfl rfl dX8_rightSide_2 ?_
  refine wk_iconst C (v := 1) dX8_rightSide_5 (by decide) ?_
  refine wk_isub C dX8_rightSide_6 rfl ?_
  refine wk_icmp_ne C (tgt := 17) dX8_rightSide_7 (by decide) (fun c1 => ?_) (fun c1 => ?_)
  · rw [if_neg c1] at h
    refine wk_aload_n C dX8_rightSide_17 rfl rfl ?_
    refine wk_iload_n C dX8_rightSide_18 rfl rfl ?_
    refine wk_iconst C (v := 4) dX8_rightSide_19 (by decide) ?_
    refine wk_callV C hR (As := [.int l1I, .int (4 : Int32)]) (cnt := 2) (tX3_at (l := l) hW hl0A h) rfl (wkGoodV (List.mem_of_getElem? (i := 2) rfl) (List.mem_of_getElem? (i := 3) rfl) (List.mem_of_getElem? (i := 4) rfl) (List.mem_of_getElem? (i := 5) rfl) hbX8_rightSide_X3_at gdX3_at) (Nat.le_trans (by decide : 0 + 1 ≤ 1) hd) (by decide) hl0A.1 (fun cy => wAt_3 cy _ hl0A.2) rfl ⟨by decide, by decide, by decide +kernel⟩ rfl rfl (Nat.le_of_ble_eq_true rfl) (Nat.le_refl 0) (Nat.le_refl 0) dX8_rightSide_20 (fun v' S3 hp => ?_)
    obtain ⟨v2, rfl, h, hWS3, hXS3⟩ := hp
    exact E _ _ _ _ _ _ (Nat.le_refl 0) (Nat.le_refl 0) dX8_rightSide_23 ⟨v2, rfl, h, hWS3, (wkExt.tr hE hXS3)⟩
  · rw [if_pos c1] at h
    refine wk_aload_n C dX8_rightSide_10 rfl rfl ?_
    refine wk_get C (v := .int (gEntry_boundNow S l0A)) huX8_rightSide_3 hl0A.1 (fun cy => wAt_3 cy _ hl0A.2) rfl 8 (by decide) (List.mem_of_getElem? (i := 6) rfl) rfl rfl dX8_rightSide_11 ?_
    refine wk_goto C (tgt := 23) dX8_rightSide_14 (by decide) ?_
    exact E _ _ _ _ _ _ (Nat.le_refl 0) (Nat.le_refl 0) dX8_rightSide_23 ⟨(gEntry_boundNow S l0A), rfl, h, hW, hE⟩
def wvX8_takeFromOthers : List Cond := .code yX8_takeFromOthers cX8_takeFromOthers 6 none :: (([.fieldLink RX8 80 "Witnessworks$Numbers" "basisCount" "I", .fieldLink RX8 20 "Witnessworks$Numbers" "amounts" "[J", .fieldLink RX8 17 "Witnessworks$Numbers" "basis" "[[J"] : List Cond) ++ ((wsX80) ++ ([])))
theorem huX8_takeFromOthers_8 : ∀ w ∈ u_ws RX8 TX8 9, w ∈ wvX8_takeFromOthers := fun w h => List.mem_cons_of_mem _ (List.mem_append_right _ (List.mem_append_left _ h))
theorem gdX8_takeFromOthers : ∀ w ∈ wvX8_takeFromOthers, wkGd w := wkGdC rfl (wkGdA (wkGdL (by decide +kernel)) (wkGdA gdX8 (fun _ h => absurd h List.not_mem_nil)))
def rX8_takeFromOthers_b0 (F : Nat) (rec : Nat → Nat → Int32 → Int32 → Int64 → Int32 → wPS → (Unit → wPS → Prop) → Prop) (l0A : Nat) (l1I : Int32) (l2I : Int32) (S : wPS) (Φ : (Unit → wPS → Prop)) : Prop :=
  if (gNumbers_basisCount S l0A) ≤ l2I then (Φ () S) else (if l2I = l1I then (wkLt (l2I + (1 : Int32)) fun x3 => rec 0 l0A l1I x3 0 0 S Φ) else (¬ (l1I < 0 ∨ S.len (wkAd (gNumbers_amounts S l0A)) ≤ (l1I).toNatClampNeg) ∧ if (lg_cmp (S.rJ (wkAd (gNumbers_amounts S l0A)) (l1I).toNatClampNeg) (0 : Int64)) = 0 then (wkLt (l2I + (1 : Int32)) fun x6 => rec 0 l0A l1I x6 0 0 S Φ) else (¬ (l2I < 0 ∨ S.len (wkAd (gNumbers_amounts S l0A)) ≤ (l2I).toNatClampNeg) ∧ ¬ (l1I < 0 ∨ S.len (wkAd (gNumbers_amounts S l0A)) ≤ (l1I).toNatClampNeg) ∧ ¬ (S.rJ (wkAd (gNumbers_amounts S l0A)) (l1I).toNatClampNeg) = 0 ∧ wkLt (((S.rJ (wkAd (gNumbers_amounts S l0A)) (l2I).toNatClampNeg) / (S.rJ (wkAd (gNumbers_amounts S l0A)) (l1I).toNatClampNeg))) fun x10 => ¬ (l2I < 0 ∨ S.len (wkAd (gNumbers_amounts S l0A)) ≤ (l2I).toNatClampNeg) ∧ ¬ (l1I < 0 ∨ S.len (wkAd (gNumbers_amounts S l0A)) ≤ (l1I).toNatClampNeg) ∧ ¬ (l2I < 0 ∨ S.len (wkAd (gNumbers_amounts S l0A)) ≤ (l2I).toNatClampNeg) ∧ wkLt (wuJ S (wkAd (gNumbers_amounts S l0A)) l2I ((S.rJ (wkAd (gNumbers_amounts S l0A)) (l2I).toNatClampNeg) - (x10 * (S.rJ (wkAd (gNumbers_amounts S l0A)) (l1I).toNatClampNeg)))) fun S14 => rec 1 l0A l1I l2I x10 (0 : Int32) S14 Φ)))
def rX8_takeFromOthers_b1 (F : Nat) (rec : Nat → Nat → Int32 → Int32 → Int64 → Int32 → wPS → (Unit → wPS → Prop) → Prop) (l0A : Nat) (l1I : Int32) (l2I : Int32) (l3J : Int64) (l5I : Int32) (S : wPS) (Φ : (Unit → wPS → Prop)) : Prop :=
  if (4 : Int32) ≤ l5I then (wkLt (l2I + (1 : Int32)) fun x16 => rec 0 l0A l1I x16 0 0 S Φ) else (¬ (l2I < 0 ∨ S.len (wkAd (gNumbers_basis S l0A)) ≤ (l2I).toNatClampNeg) ∧ ¬ (l5I < 0 ∨ S.len (wkAd (S.rA (wkAd (gNumbers_basis S l0A)) (l2I).toNatClampNeg)) ≤ (l5I).toNatClampNeg) ∧ ¬ (l1I < 0 ∨ S.len (wkAd (gNumbers_basis S l0A)) ≤ (l1I).toNatClampNeg) ∧ ¬ (l5I < 0 ∨ S.len (wkAd (S.rA (wkAd (gNumbers_basis S l0A)) (l1I).toNatClampNeg)) ≤ (l5I).toNatClampNeg) ∧ ¬ (l5I < 0 ∨ S.len (wkAd (S.rA (wkAd (gNumbers_basis S l0A)) (l2I).toNatClampNeg)) ≤ (l5I).toNatClampNeg) ∧ wkLt (wuJ S (wkAd (S.rA (wkAd (gNumbers_basis S l0A)) (l2I).toNatClampNeg)) l5I ((S.rJ (wkAd (S.rA (wkAd (gNumbers_basis S l0A)) (l2I).toNatClampNeg)) (l5I).toNatClampNeg) - (l3J * (S.rJ (wkAd (S.rA (wkAd (gNumbers_basis S l0A)) (l1I).toNatClampNeg)) (l5I).toNatClampNeg)))) fun S24 => wkLt (l5I + (1 : Int32)) fun x25 => rec 1 l0A l1I l2I l3J x25 S24 Φ)
def rX8_takeFromOthers_go (F : Nat) : Nat → Nat → Nat → Int32 → Int32 → Int64 → Int32 → wPS → (Unit → wPS → Prop) → Prop
  | 0, _, _, _, _, _, _, _, _ => False
  | k' + 1, lab, l0A, l1I, l2I, l3J, l5I, S, Φ => if lab = 0 then rX8_takeFromOthers_b0 F (rX8_takeFromOthers_go F k') l0A l1I l2I S Φ else if lab = 1 then rX8_takeFromOthers_b1 F (rX8_takeFromOthers_go F k') l0A l1I l2I l3J l5I S Φ else False
def rX8_takeFromOthers_s (F : Nat) (rec : Nat → Nat → Int32 → Int32 → Int64 → Int32 → wPS → (Unit → wPS → Prop) → Prop) (l0A : Nat) (l1I : Int32) (S : wPS) (Φ : (Unit → wPS → Prop)) : Prop :=
  rec 0 l0A l1I (0 : Int32) 0 0 S Φ
def rX8_takeFromOthers (F : Nat) (l0A : Nat) (l1I : Int32) (S : wPS) (Φ : (Unit → wPS → Prop)) : Prop := rX8_takeFromOthers_s F (rX8_takeFromOthers_go F F) l0A l1I S Φ
set_option maxHeartbeats 4000000 in
set_option maxRecDepth 100000 in
theorem tX8_takeFromOthers_go {l : Launch} {X : wkX} {d F : Nat} {S0 : wPS} {Φ : (Unit → wPS → Prop)} (C : wkC X cX8_takeFromOthers RX8 6 wvX8_takeFromOthers) (hR : wkRm X d 0 0) (hd : 0 ≤ d) (E : wkEnd l X cX8_takeFromOthers 6 none 0 0 (fun v' S'' => ∃ v : Unit, v' = none ∧ Φ v S'' ∧ wkWF S'' ∧ wkExt S0 S'')) : ∀ k' : Nat, (∀ (l0A : Nat) (l1I : Int32) (l2I : Int32) (S : wPS), wkWF S → wkExt S0 S → wkIs S l0A 8 → rX8_takeFromOthers_go F k' 0 l0A l1I l2I 0 0 S Φ → wkGo l X 6 0 0 2 S [some (.ref l0A), some (.int l1I), some (.int l2I), none, none, none] []) ∧ (∀ (l0A : Nat) (l1I : Int32) (l2I : Int32) (l3J : Int64) (l5I : Int32) (S : wPS), wkWF S → wkExt S0 S → wkIs S l0A 8 → rX8_takeFromOthers_go F k' 1 l0A l1I l2I l3J l5I S Φ → wkGo l X 6 0 0 60 S [some (.ref l0A), some (.int l1I), some (.int l2I), some (.long l3J), none, some (.int l5I)] []) := by
  intro k'
  induction k' with
  | zero => exact ⟨fun l0A l1I l2I S hW hE hl0A h => h.elim, fun l0A l1I l2I l3J l5I S hW hE hl0A h => h.elim⟩
  | succ k' ih =>
    refine ⟨?_, ?_⟩
    · intro l0A l1I l2I S hW hE hl0A h
      have h : rX8_takeFromOthers_b0 F (rX8_takeFromOthers_go F k') l0A l1I l2I S Φ := by
        rw [rX8_takeFromOthers_go, if_pos (rfl : (0 : Nat) = 0)] at h
        exact h
      unfold rX8_takeFromOthers_b0 at h
      refine wk_iload_n C dX8_takeFromOthers_2 rfl rfl ?_
      refine wk_aload_n C dX8_takeFromOthers_3 rfl rfl ?_
      refine wk_get C (v := .int (gNumbers_basisCount S l0A)) huX8_takeFromOthers_8 hl0A.1 (fun cy => wAt_8 cy _ hl0A.2) rfl 3 (by decide) (List.mem_of_getElem? (i := 1) rfl) rfl rfl dX8_takeFromOthers_4 ?_
      refine wk_icmp_ge C (tgt := 101) dX8_takeFromOthers_7 (by decide) (fun c1 => ?_) (fun c1 => ?_)
      · rw [if_pos c1] at h
        exact E _ _ _ _ _ (Nat.le_refl 0) (Nat.le_refl 0) dX8_takeFromOthers_101 ⟨(), rfl, h, hW, hE⟩
      · rw [if_neg c1] at h
        refine wk_iload_n C dX8_takeFromOthers_10 rfl rfl ?_
        refine wk_iload_n C dX8_takeFromOthers_11 rfl rfl ?_
        refine wk_icmp_eq C (tgt := 95) dX8_takeFromOthers_12 (by decide) (fun c2 => ?_) (fun c2 => ?_)
        · rw [if_pos c2] at h
          obtain ⟨x3, ex3, h⟩ := wkLt_some h
          refine wk_iinc C (lv' := [some (.ref l0A), some (.int l1I), some (.int x3), none, none, none]) dX8_takeFromOthers_95 rfl (by rw [ex3]; rfl) (by decide) rfl ?_
          refine wk_goto C (tgt := 2) dX8_takeFromOthers_98 (by decide) ?_
          exact wk_forget (lv' := [some (.ref l0A), some (.int l1I), some (.int x3), none, none, none]) (wkLs.le ⟨rfl, rfl, rfl, trivial⟩) (ih.1 _ _ _ _ hW hE hl0A h)
        · rw [if_neg c2] at h
          refine wk_aload_n C dX8_takeFromOthers_15 rfl rfl ?_
          refine wk_get C huX8_takeFromOthers_8 hl0A.1 (fun cy => wAt_8 cy _ hl0A.2) rfl 2 (by decide) (List.mem_of_getElem? (i := 2) rfl) rfl (congrArg some (congrArg va_rf (wf_Numbers_amounts hW hl0A).1)) dX8_takeFromOthers_16 ?_
          refine wk_iload_n C dX8_takeFromOthers_19 rfl rfl ?_
          obtain ⟨i4, h⟩ := h
          refine wk_lald C (wf_Numbers_amounts hW hl0A).2.1 (wf_Numbers_amounts hW hl0A).2.2 i4 rfl dX8_takeFromOthers_20 ?_
          refine wk_lconst C (v := 0) dX8_takeFromOthers_21 (by decide) ?_
          refine wk_lcmp C dX8_takeFromOthers_22 rfl ?_
          refine wk_if_eq C (tgt := 95) dX8_takeFromOthers_23 (by decide) (fun c5 => ?_) (fun c5 => ?_)
          · rw [if_pos c5] at h
            obtain ⟨x6, ex6, h⟩ := wkLt_some h
            refine wk_iinc C (lv' := [some (.ref l0A), some (.int l1I), some (.int x6), none, none, none]) dX8_takeFromOthers_95 rfl (by rw [ex6]; rfl) (by decide) rfl ?_
            refine wk_goto C (tgt := 2) dX8_takeFromOthers_98 (by decide) ?_
            exact wk_forget (lv' := [some (.ref l0A), some (.int l1I), some (.int x6), none, none, none]) (wkLs.le ⟨rfl, rfl, rfl, trivial⟩) (ih.1 _ _ _ _ hW hE hl0A h)
          · rw [if_neg c5] at h
            refine wk_aload_n C dX8_takeFromOthers_26 rfl rfl ?_
            refine wk_get C huX8_takeFromOthers_8 hl0A.1 (fun cy => wAt_8 cy _ hl0A.2) rfl 2 (by decide) (List.mem_of_getElem? (i := 2) rfl) rfl (congrArg some (congrArg va_rf (wf_Numbers_amounts hW hl0A).1)) dX8_takeFromOthers_27 ?_
            refine wk_iload_n C dX8_takeFromOthers_30 rfl rfl ?_
            obtain ⟨i7, h⟩ := h
            refine wk_lald C (wf_Numbers_amounts hW hl0A).2.1 (wf_Numbers_amounts hW hl0A).2.2 i7 rfl dX8_takeFromOthers_31 ?_
            refine wk_aload_n C dX8_takeFromOthers_32 rfl rfl ?_
            refine wk_get C huX8_takeFromOthers_8 hl0A.1 (fun cy => wAt_8 cy _ hl0A.2) rfl 2 (by decide) (List.mem_of_getElem? (i := 2) rfl) rfl (congrArg some (congrArg va_rf (wf_Numbers_amounts hW hl0A).1)) dX8_takeFromOthers_33 ?_
            refine wk_iload_n C dX8_takeFromOthers_36 rfl rfl ?_
            obtain ⟨i8, h⟩ := h
            refine wk_lald C (wf_Numbers_amounts hW hl0A).2.1 (wf_Numbers_amounts hW hl0A).2.2 i8 rfl dX8_takeFromOthers_37 ?_
            obtain ⟨z9, h⟩ := h
            refine wk_ldiv C dX8_takeFromOthers_38 z9 rfl ?_
            obtain ⟨x10, ex10, h⟩ := wkLt_some h
            refine wk_topl ex10 ?_
            refine wk_lstore_n C (lv' := [some (.ref l0A), some (.int l1I), some (.int l2I), some (.long x10), none, none]) dX8_takeFromOthers_39 rfl (by decide) rfl ?_
            refine wk_aload_n C dX8_takeFromOthers_40 rfl rfl ?_
            refine wk_get C huX8_takeFromOthers_8 hl0A.1 (fun cy => wAt_8 cy _ hl0A.2) rfl 2 (by decide) (List.mem_of_getElem? (i := 2) rfl) rfl (congrArg some (congrArg va_rf (wf_Numbers_amounts hW hl0A).1)) dX8_takeFromOthers_41 ?_
            refine wk_iload_n C dX8_takeFromOthers_44 rfl rfl ?_
            refine wk_dup2 C dX8_takeFromOthers_45 rfl rfl ?_
            obtain ⟨i11, h⟩ := h
            refine wk_lald C (wf_Numbers_amounts hW hl0A).2.1 (wf_Numbers_amounts hW hl0A).2.2 i11 rfl dX8_takeFromOthers_46 ?_
            refine wk_lload_n C dX8_takeFromOthers_47 rfl rfl ?_
            refine wk_aload_n C dX8_takeFromOthers_48 rfl rfl ?_
            refine wk_get C huX8_takeFromOthers_8 hl0A.1 (fun cy => wAt_8 cy _ hl0A.2) rfl 2 (by decide) (List.mem_of_getElem? (i := 2) rfl) rfl (congrArg some (congrArg va_rf (wf_Numbers_amounts hW hl0A).1)) dX8_takeFromOthers_49 ?_
            refine wk_iload_n C dX8_takeFromOthers_52 rfl rfl ?_
            obtain ⟨i12, h⟩ := h
            refine wk_lald C (wf_Numbers_amounts hW hl0A).2.1 (wf_Numbers_amounts hW hl0A).2.2 i12 rfl dX8_takeFromOthers_53 ?_
            refine wk_lmul C dX8_takeFromOthers_54 rfl ?_
            refine wk_lsub C dX8_takeFromOthers_55 rfl ?_
            obtain ⟨i13, h⟩ := h
            obtain ⟨S14, eS14, h⟩ := wkLt_some h
            refine wk_last C (wf_Numbers_amounts hW hl0A).2.1 (wf_Numbers_amounts hW hl0A).2.2 i13 eS14.symm dX8_takeFromOthers_56 ?_
            have hWS14 : wkWF S14 := by rw [eS14]; exact hW
            have hXS14 : wkExt S S14 := by rw [eS14]; exact wkExt.rf
            refine wk_iconst C (v := 0) dX8_takeFromOthers_57 (by decide) ?_
            refine wk_istore C (lv' := [some (.ref l0A), some (.int l1I), some (.int l2I), some (.long x10), none, some (.int (0 : Int32))]) dX8_takeFromOthers_58 (by decide) rfl ?_
            exact wk_forget (lv' := [some (.ref l0A), some (.int l1I), some (.int l2I), some (.long x10), none, some (.int (0 : Int32))]) (wkLs.le ⟨rfl, rfl, rfl, rfl, rfl, trivial⟩) (ih.2 _ _ _ _ _ _ hWS14 (wkExt.tr hE hXS14) (hXS14 _ _ hl0A) h)
    · intro l0A l1I l2I l3J l5I S hW hE hl0A h
      have h : rX8_takeFromOthers_b1 F (rX8_takeFromOthers_go F k') l0A l1I l2I l3J l5I S Φ := by
        rw [rX8_takeFromOthers_go, if_neg (show ¬ (1 : Nat) = 0 by decide), if_pos (rfl : (1 : Nat) = 1)] at h
        exact h
      unfold rX8_takeFromOthers_b1 at h
      refine wk_iload C dX8_takeFromOthers_60 rfl ?_
      refine wk_iconst C (v := 4) dX8_takeFromOthers_62 (by decide) ?_
      refine wk_icmp_ge C (tgt := 95) dX8_takeFromOthers_63 (by decide) (fun c15 => ?_) (fun c15 => ?_)
      · rw [if_pos c15] at h
        obtain ⟨x16, ex16, h⟩ := wkLt_some h
        refine wk_iinc C (lv' := [some (.ref l0A), some (.int l1I), some (.int x16), some (.long l3J), none, some (.int l5I)]) dX8_takeFromOthers_95 rfl (by rw [ex16]; rfl) (by decide) rfl ?_
        refine wk_goto C (tgt := 2) dX8_takeFromOthers_98 (by decide) ?_
        exact wk_forget (lv' := [some (.ref l0A), some (.int l1I), some (.int x16), none, none, none]) (wkLs.le ⟨rfl, rfl, rfl, trivial⟩) (ih.1 _ _ _ _ hW hE hl0A h)
      · rw [if_neg c15] at h
        refine wk_aload_n C dX8_takeFromOthers_66 rfl rfl ?_
        refine wk_get C huX8_takeFromOthers_8 hl0A.1 (fun cy => wAt_8 cy _ hl0A.2) rfl 1 (by decide) (List.mem_of_getElem? (i := 3) rfl) rfl (congrArg some (congrArg va_rf (wf_Numbers_basis hW hl0A).1)) dX8_takeFromOthers_67 ?_
        refine wk_iload_n C dX8_takeFromOthers_70 rfl rfl ?_
        obtain ⟨i17, h⟩ := h
        have w18 := wf_R_J hW (wf_Numbers_basis hW hl0A).2 (Nat.not_le.mp fun q => i17 (Or.inr q))
        refine wk_aald_J C (wf_Numbers_basis hW hl0A).2.1 (wf_Numbers_basis hW hl0A).2.2 i17 w18.1 dX8_takeFromOthers_71 ?_
        refine wk_iload C dX8_takeFromOthers_72 rfl ?_
        refine wk_dup2 C dX8_takeFromOthers_74 rfl rfl ?_
        obtain ⟨i19, h⟩ := h
        refine wk_lald C w18.2.1 w18.2.2 i19 rfl dX8_takeFromOthers_75 ?_
        refine wk_lload_n C dX8_takeFromOthers_76 rfl rfl ?_
        refine wk_aload_n C dX8_takeFromOthers_77 rfl rfl ?_
        refine wk_get C huX8_takeFromOthers_8 hl0A.1 (fun cy => wAt_8 cy _ hl0A.2) rfl 1 (by decide) (List.mem_of_getElem? (i := 3) rfl) rfl (congrArg some (congrArg va_rf (wf_Numbers_basis hW hl0A).1)) dX8_takeFromOthers_78 ?_
        refine wk_iload_n C dX8_takeFromOthers_81 rfl rfl ?_
        obtain ⟨i20, h⟩ := h
        have w21 := wf_R_J hW (wf_Numbers_basis hW hl0A).2 (Nat.not_le.mp fun q => i20 (Or.inr q))
        refine wk_aald_J C (wf_Numbers_basis hW hl0A).2.1 (wf_Numbers_basis hW hl0A).2.2 i20 w21.1 dX8_takeFromOthers_82 ?_
        refine wk_iload C dX8_takeFromOthers_83 rfl ?_
        obtain ⟨i22, h⟩ := h
        refine wk_lald C w21.2.1 w21.2.2 i22 rfl dX8_takeFromOthers_85 ?_
        refine wk_lmul C dX8_takeFromOthers_86 rfl ?_
        refine wk_lsub C dX8_takeFromOthers_87 rfl ?_
        obtain ⟨i23, h⟩ := h
        obtain ⟨S24, eS24, h⟩ := wkLt_some h
        refine wk_last C w18.2.1 w18.2.2 i23 eS24.symm dX8_takeFromOthers_88 ?_
        have hWS24 : wkWF S24 := by rw [eS24]; exact hW
        have hXS24 : wkExt S S24 := by rw [eS24]; exact wkExt.rf
        obtain ⟨x25, ex25, h⟩ := wkLt_some h
        refine wk_iinc C (lv' := [some (.ref l0A), some (.int l1I), some (.int l2I), some (.long l3J), none, some (.int x25)]) dX8_takeFromOthers_89 rfl (by rw [ex25]; rfl) (by decide) rfl ?_
        refine wk_goto C (tgt := 60) dX8_takeFromOthers_92 (by decide) ?_
        exact wk_forget (lv' := [some (.ref l0A), some (.int l1I), some (.int l2I), some (.long l3J), none, some (.int x25)]) (wkLs.le ⟨rfl, rfl, rfl, rfl, rfl, trivial⟩) (ih.2 _ _ _ _ _ _ hWS24 (wkExt.tr hE hXS24) (hXS24 _ _ hl0A) h)
set_option maxHeartbeats 4000000 in
set_option maxRecDepth 100000 in
theorem tX8_takeFromOthers {l : Launch} {g : wkG} {F : Nat}  {S : wPS} {l0A : Nat} {l1I : Int32} {Φ : (Unit → wPS → Prop)} (hW : wkWF S) (hl0A : wkIs S l0A 8) (h : rX8_takeFromOthers F l0A l1I S Φ) : wkMet l g yX8_takeFromOthers wvX8_takeFromOthers 0 0 0 [.ref l0A, .int l1I] S (fun v' S'' => ∃ v : Unit, v' = none ∧ Φ v S'' ∧ wkWF S'' ∧ wkExt S S'') := by
  refine wkMet_of (ret := none) (by decide) rfl (Nat.le_of_ble_eq_true rfl) (fun X hg C hR E => ?_)
  subst hg
  have hE : wkExt S S := wkExt.rf
  have hd : 0 ≤ 0 := Nat.le_refl _
  show wkGo l X 6 0 0 0 S [some (.ref l0A), some (.int l1I), none, none, none, none] []
  have ih := tX8_takeFromOthers_go (F := F) C hR hd E F
  have h : rX8_takeFromOthers_s F (rX8_takeFromOthers_go F F) l0A l1I S Φ := h
  unfold rX8_takeFromOthers_s at h
  refine wk_iconst C (v := 0) dX8_takeFromOthers_0 (by decide) ?_
  refine wk_istore_n C (lv' := [some (.ref l0A), some (.int l1I), some (.int (0 : Int32)), none, none, none]) dX8_takeFromOthers_1 rfl (by decide) rfl ?_
  exact wk_forget (lv' := [some (.ref l0A), some (.int l1I), some (.int (0 : Int32)), none, none, none]) (wkLs.le ⟨rfl, rfl, rfl, trivial⟩) (ih.1 _ _ _ _ hW hE hl0A h)
