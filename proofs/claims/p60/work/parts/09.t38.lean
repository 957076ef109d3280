def wvX7_judgeFlow : List Cond := .code yX7_judgeFlow cX7_judgeFlow 4 (some .int) :: (([.fieldLink RX7 147 "Witnessworks$Networks" "itemCount" "I", .methodLink RX7 110 yX9_at, .instanceMethod yX9_at, .selects RX9 yX9_at yX9_at, .initialized RX9, .fieldLink RX7 24 "Witnessworks$Networks" "caps" "[I", .fieldLink RX7 33 "Witnessworks$Networks" "excess" "[I", .fieldLink RX7 18 "Witnessworks$Networks" "from" "[I", .fieldLink RX7 21 "Witnessworks$Networks" "to" "[I", .fieldLink RX7 138 "Witnessworks$Networks" "nodeCount" "I", .fieldLink RX7 46 "Witnessworks$Entry" "boundNow" "I", .methodLink RX7 126 yX7_loadFlows, .instanceMethod yX7_loadFlows, .selects RX7 yX7_loadFlows yX7_loadFlows, .initialized RX7, .fieldLink RX7 103 "Witnessworks$Row" "count" "I", .methodLink RX7 133 yJ7_fill_53178, .static yJ7_fill_53178, .initialized RJ7] : List Cond) ++ ((wsX70 ++ (wsX30 ++ (wsX90))) ++ (wvX9_at ++ (wvX7_loadFlows ++ (wvJ7_fill_53178)))))
theorem huX7_judgeFlow_7 : ∀ w ∈ u_ws RX7 TX7 11, w ∈ wvX7_judgeFlow := fun w h => List.mem_cons_of_mem _ (List.mem_append_right _ (List.mem_append_left _ (List.mem_append_left _ h)))
theorem huX7_judgeFlow_3 : ∀ w ∈ u_ws RX3 TX3 17, w ∈ wvX7_judgeFlow := fun w h => List.mem_cons_of_mem _ (List.mem_append_right _ (List.mem_append_left _ (List.mem_append_right _ (List.mem_append_left _ h))))
theorem huX7_judgeFlow_9 : ∀ w ∈ u_ws RX9 TX9 2, w ∈ wvX7_judgeFlow := fun w h => List.mem_cons_of_mem _ (List.mem_append_right _ (List.mem_append_left _ (List.mem_append_right _ (List.mem_append_right _ h))))
theorem hbX7_judgeFlow_X9_at : ∀ w ∈ wvX9_at, w ∈ wvX7_judgeFlow := fun w h => List.mem_cons_of_mem _ (List.mem_append_right _ (List.mem_append_right _ (List.mem_append_left _ h)))
theorem hbX7_judgeFlow_X7_loadFlows : ∀ w ∈ wvX7_loadFlows, w ∈ wvX7_judgeFlow := fun w h => List.mem_cons_of_mem _ (List.mem_append_right _ (List.mem_append_right _ (List.mem_append_right _ (List.mem_append_left _ h))))
theorem hbX7_judgeFlow_J7_fill_53178 : ∀ w ∈ wvJ7_fill_53178, w ∈ wvX7_judgeFlow := fun w h => List.mem_cons_of_mem _ (List.mem_append_right _ (List.mem_append_right _ (List.mem_append_right _ (List.mem_append_right _ h))))
theorem gdX7_judgeFlow : ∀ w ∈ wvX7_judgeFlow, wkGd w := wkGdC rfl (wkGdA (wkGdL (by decide +kernel)) (wkGdA (wkGdA gdX7 (wkGdA gdX3 gdX9)) (wkGdA gdX9_at (wkGdA gdX7_loadFlows gdJ7_fill_53178))))
def rX7_judgeFlow_b0 (F : Nat) (rec : Nat → Nat → Nat → Nat → Int32 → wPS → (Int32 → wPS → Prop) → Prop) (l0A : Nat) (l1A : Nat) (l2A : Nat) (l3I : Int32) (S : wPS) (Φ : (Int32 → wPS → Prop)) : Prop :=
  if (gNetworks_itemCount S l0A) ≤ l3I then (rec 1 l0A l1A 0 (1 : Int32) S Φ) else (rX9_at F l2A l3I S fun v2 S3 => if v2 < 0 then (Φ (2 : Int32) S3) else (rX9_at F l2A l3I S3 fun v8 S9 => ¬ (l3I < 0 ∨ S9.len (wkAd (gNetworks_caps S9 l0A)) ≤ (l3I).toNatClampNeg) ∧ if v8 ≤ (S9.rI (wkAd (gNetworks_caps S9 l0A)) (l3I).toNatClampNeg) then (¬ (l3I < 0 ∨ S9.len (wkAd (gNetworks_from S9 l0A)) ≤ (l3I).toNatClampNeg) ∧ ¬ ((S9.rI (wkAd (gNetworks_from S9 l0A)) (l3I).toNatClampNeg) < 0 ∨ S9.len (wkAd (gNetworks_excess S9 l0A)) ≤ ((S9.rI (wkAd (gNetworks_from S9 l0A)) (l3I).toNatClampNeg)).toNatClampNeg) ∧ rX9_at F l2A l3I S9 fun v17 S18 => ¬ ((S9.rI (wkAd (gNetworks_from S9 l0A)) (l3I).toNatClampNeg) < 0 ∨ S18.len (wkAd (gNetworks_excess S9 l0A)) ≤ ((S9.rI (wkAd (gNetworks_from S9 l0A)) (l3I).toNatClampNeg)).toNatClampNeg) ∧ wkLt (wuI S18 (wkAd (gNetworks_excess S9 l0A)) (S9.rI (wkAd (gNetworks_from S9 l0A)) (l3I).toNatClampNeg) ((S9.rI (wkAd (gNetworks_excess S9 l0A)) ((S9.rI (wkAd (gNetworks_from S9 l0A)) (l3I).toNatClampNeg)).toNatClampNeg) + v17)) fun S23 => ¬ (l3I < 0 ∨ S23.len (wkAd (gNetworks_to S23 l0A)) ≤ (l3I).toNatClampNeg) ∧ ¬ ((S23.rI (wkAd (gNetworks_to S23 l0A)) (l3I).toNatClampNeg) < 0 ∨ S23.len (wkAd (gNetworks_excess S23 l0A)) ≤ ((S23.rI (wkAd (gNetworks_to S23 l0A)) (l3I).toNatClampNeg)).toNatClampNeg) ∧ rX9_at F l2A l3I S23 fun v26 S27 => ¬ ((S23.rI (wkAd (gNetworks_to S23 l0A)) (l3I).toNatClampNeg) < 0 ∨ S27.len (wkAd (gNetworks_excess S23 l0A)) ≤ ((S23.rI (wkAd (gNetworks_to S23 l0A)) (l3I).toNatClampNeg)).toNatClampNeg) ∧ wkLt (wuI S27 (wkAd (gNetworks_excess S23 l0A)) (S23.rI (wkAd (gNetworks_to S23 l0A)) (l3I).toNatClampNeg) ((S23.rI (wkAd (gNetworks_excess S23 l0A)) ((S23.rI (wkAd (gNetworks_to S23 l0A)) (l3I).toNatClampNeg)).toNatClampNeg) - v26)) fun S32 => wkLt (l3I + (1 : Int32)) fun x33 => rec 0 l0A l1A l2A x33 S32 Φ) else (Φ (2 : Int32) S9)))
def rX7_judgeFlow_b1 (F : Nat) (rec : Nat → Nat → Nat → Nat → Int32 → wPS → (Int32 → wPS → Prop) → Prop) (l0A : Nat) (l1A : Nat) (l3I : Int32) (S : wPS) (Φ : (Int32 → wPS → Prop)) : Prop :=
  if ((gNetworks_nodeCount S l0A) - (1 : Int32)) ≤ l3I then (¬ ((0 : Int32) < 0 ∨ S.len (wkAd (gNetworks_excess S l0A)) ≤ ((0 : Int32)).toNatClampNeg) ∧ if (S.rI (wkAd (gNetworks_excess S l0A)) ((0 : Int32)).toNatClampNeg) = (gEntry_boundNow S l1A) then (Φ (0 : Int32) S) else (Φ (4 : Int32) S)) else (¬ (l3I < 0 ∨ S.len (wkAd (gNetworks_excess S l0A)) ≤ (l3I).toNatClampNeg) ∧ if (S.rI (wkAd (gNetworks_excess S l0A)) (l3I).toNatClampNeg) = 0 then (wkLt (l3I + (1 : Int32)) fun x39 => rec 1 l0A l1A 0 x39 S Φ) else (Φ (3 : Int32) S))
def rX7_judgeFlow_go (F : Nat) : Nat → Nat → Nat → Nat → Nat → Int32 → wPS → (Int32 → wPS → Prop) → Prop
  | 0, _, _, _, _, _, _, _ => False
  | k' + 1, lab, l0A, l1A, l2A, l3I, S, Φ => if lab = 0 then rX7_judgeFlow_b0 F (rX7_judgeFlow_go F k') l0A l1A l2A l3I S Φ else if lab = 1 then rX7_judgeFlow_b1 F (rX7_judgeFlow_go F k') l0A l1A l3I S Φ else False
def rX7_judgeFlow_s (F : Nat) (rec : Nat → Nat → Nat → Nat → Int32 → wPS → (Int32 → wPS → Prop) → Prop) (l0A : Nat) (l1A : Nat) (l2A : Nat) (S : wPS) (Φ : (Int32 → wPS → Prop)) : Prop :=
  rX7_loadFlows F l0A l1A S fun v40 S41 => if (gRow_count S41 l2A) = (gNetworks_itemCount S41 l0A) then (rJ7_fill_53178 F (wkAd (gNetworks_excess S41 l0A)) (0 : Int32) S41 fun v46 S47 => rec 0 l0A l1A l2A (0 : Int32) S47 Φ) else (Φ (1 : Int32) S41)
def rX7_judgeFlow (F : Nat) (l0A : Nat) (l1A : Nat) (l2A : Nat) (S : wPS) (Φ : (Int32 → wPS → Prop)) : Prop := rX7_judgeFlow_s F (rX7_judgeFlow_go F F) l0A l1A l2A S Φ
set_option maxHeartbeats 4000000 in
set_option maxRecDepth 100000 in
theorem tX7_judgeFlow_go {l : Launch} {X : wkX} {d F : Nat} {S0 : wPS} {Φ : (Int32 → wPS → Prop)} (C : wkC X cX7_judgeFlow RX7 4 wvX7_judgeFlow) (hR : wkRm X d 0 0) (hd : 2 ≤ d) (E : wkEnd l X cX7_judgeFlow 4 (some .int) 0 0 (fun v' S'' => ∃ v : Int32, v' = some (.int v) ∧ Φ v S'' ∧ wkWF S'' ∧ wkExt S0 S'')) : ∀ k' : Nat, (∀ (l0A : Nat) (l1A : Nat) (l2A : Nat) (l3I : Int32) (S : wPS), wkWF S → wkExt S0 S → wkIs S l0A 7 → wkIs S l1A 3 → wkIs S l2A 9 → rX7_judgeFlow_go F k' 0 l0A l1A l2A l3I S Φ → wkGo l X 4 0 0 28 S [some (.ref l0A), some (.ref l1A), some (.ref l2A), some (.int l3I)] []) ∧ (∀ (l0A : Nat) (l1A : Nat) (l3I : Int32) (S : wPS), wkWF S → wkExt S0 S → wkIs S l0A 7 → wkIs S l1A 3 → rX7_judgeFlow_go F k' 1 l0A l1A 0 l3I S Φ → wkGo l X 4 0 0 106 S [some (.ref l0A), some (.ref l1A), none, some (.int l3I)] []) := by
  intro k'
  induction k' with
  | zero => exact ⟨fun l0A l1A l2A l3I S hW hE hl0A hl1A hl2A h => h.elim, fun l0A l1A l3I S hW hE hl0A hl1A h => h.elim⟩
  | succ k' ih =>
    refine ⟨?_, ?_⟩
    · intro l0A l1A l2A l3I S hW hE hl0A hl1A hl2A h
      have h : rX7_judgeFlow_b0 F (rX7_judgeFlow_go F k') l0A l1A l2A l3I S Φ := by
        rw [rX7_judgeFlow_go, if_pos (rfl : (0 : Nat) = 0)] at h
        exact h
      unfold rX7_judgeFlow_b0 at h
      refine wk_iload_n C dX7_judgeFlow_28 rfl rfl ?_
      refine wk_aload_n C dX7_judgeFlow_29 rfl rfl ?_
      refine wk_get C (v := .int (gNetworks_itemCount S l0A)) huX7_judgeFlow_7 hl0A.1 (fun cy => wAt_7 cy _ hl0A.2) rfl 9 (by decide) (List.mem_of_getElem? (i := 1) rfl) rfl rfl dX7_judgeFlow_30 ?_
      refine wk_icmp_ge C (tgt := 104) dX7_judgeFlow_33 (by decide) (fun c1 => ?_) (fun c1 => ?_)
      · rw [if_pos c1] at h
        refine wk_iconst C (v := 1) dX7_judgeFlow_104 (by decide) ?_
        refine wk_istore_n C (lv' := [some (.ref l0A), some (.ref l1A), some (.ref l2A), some (.int (1 : Int32))]) dX7_judgeFlow_105 rfl (by decide) rfl ?_
        exact wk_forget (lv' := [some (.ref l0A), some (.ref l1A), none, some (.int (1 : Int32))]) (wkLs.le ⟨rfl, rfl, rfl, trivial⟩) (ih.2 _ _ _ _ hW hE hl0A hl1A h)
      · rw [if_neg c1] at h
        refine wk_aload_n C dX7_judgeFlow_36 rfl rfl ?_
        refine wk_iload_n C dX7_judgeFlow_37 rfl rfl ?_
        refine wk_callV C hR (As := [.int l3I]) (cnt := 1) (tX9_at (l := l) hW hl2A h) rfl (wkGoodV (List.mem_of_getElem? (i := 2) rfl) (List.mem_of_getElem? (i := 3) rfl) (List.mem_of_getElem? (i := 4) rfl) (List.mem_of_getElem? (i := 5) rfl) hbX7_judgeFlow_X9_at gdX9_at) (Nat.le_trans (by decide : 0 + 1 ≤ 2) hd) (by decide) hl2A.1 (fun cy => wAt_9 cy _ hl2A.2) rfl ⟨by decide, by decide, by decide +kernel⟩ rfl rfl (Nat.le_of_ble_eq_true rfl) (Nat.le_refl 0) (Nat.le_refl 0) dX7_judgeFlow_38 (fun v' S3 hp => ?_)
        obtain ⟨v2, rfl, h, hWS3, hXS3⟩ := hp
        refine wk_if_lt C (tgt := 58) dX7_judgeFlow_41 (by decide) (fun c7 => ?_) (fun c7 => ?_)
        · rw [if_pos c7] at h
          refine wk_iconst C (v := 2) dX7_judgeFlow_58 (by decide) ?_
          exact E _ _ _ _ _ _ (Nat.le_refl 0) (Nat.le_refl 0) dX7_judgeFlow_59 ⟨(2 : Int32), rfl, h, hWS3, (wkExt.tr hE hXS3)⟩
        · rw [if_neg c7] at h
          refine wk_aload_n C dX7_judgeFlow_44 rfl rfl ?_
          refine wk_iload_n C dX7_judgeFlow_45 rfl rfl ?_
          refine wk_callV C hR (As := [.int l3I]) (cnt := 1) (tX9_at (l := l) hWS3 (hXS3 _ _ hl2A) h) rfl (wkGoodV (List.mem_of_getElem? (i := 2) rfl) (List.mem_of_getElem? (i := 3) rfl) (List.mem_of_getElem? (i := 4) rfl) (List.mem_of_getElem? (i := 5) rfl) hbX7_judgeFlow_X9_at gdX9_at) (Nat.le_trans (by decide : 0 + 1 ≤ 2) hd) (by decide) (hXS3 _ _ hl2A).1 (fun cy => wAt_9 cy _ (hXS3 _ _ hl2A).2) rfl ⟨by decide, by decide, by decide +kernel⟩ rfl rfl (Nat.le_of_ble_eq_true rfl) (Nat.le_refl 0) (Nat.le_refl 0) dX7_judgeFlow_46 (fun v' S9 hp => ?_)
          obtain ⟨v8, rfl, h, hWS9, hXS9⟩ := hp
          refine wk_aload_n C dX7_judgeFlow_49 rfl rfl ?_
          refine wk_get C huX7_judgeFlow_7 (hXS9 _ _ (hXS3 _ _ hl0A)).1 (fun cy => wAt_7 cy _ (hXS9 _ _ (hXS3 _ _ hl0A)).2) rfl 4 (by decide) (List.mem_of_getElem? (i := 6) rfl) rfl (congrArg some (congrArg va_rf (wf_Networks_caps hWS9 (hXS9 _ _ (hXS3 _ _ hl0A))).1)) dX7_judgeFlow_50 ?_
          refine wk_iload_n C dX7_judgeFlow_53 rfl rfl ?_
          obtain ⟨i13, h⟩ := h
          refine wk_iald C (wf_Networks_caps hWS9 (hXS9 _ _ (hXS3 _ _ hl0A))).2.1 (wf_Networks_caps hWS9 (hXS9 _ _ (hXS3 _ _ hl0A))).2.2 i13 rfl dX7_judgeFlow_54 ?_
          refine wk_icmp_le C (tgt := 60) dX7_judgeFlow_55 (by decide) (fun c14 => ?_) (fun c14 => ?_)
          · rw [if_pos c14] at h
            refine wk_aload_n C dX7_judgeFlow_60 rfl rfl ?_
            refine wk_get C huX7_judgeFlow_7 (hXS9 _ _ (hXS3 _ _ hl0A)).1 (fun cy => wAt_7 cy _ (hXS9 _ _ (hXS3 _ _ hl0A)).2) rfl 7 (by decide) (List.mem_of_getElem? (i := 7) rfl) rfl (congrArg some (congrArg va_rf (wf_Networks_excess hWS9 (hXS9 _ _ (hXS3 _ _ hl0A))).1)) dX7_judgeFlow_61 ?_
            refine wk_aload_n C dX7_judgeFlow_64 rfl rfl ?_
            refine wk_get C huX7_judgeFlow_7 (hXS9 _ _ (hXS3 _ _ hl0A)).1 (fun cy => wAt_7 cy _ (hXS9 _ _ (hXS3 _ _ hl0A)).2) rfl 2 (by decide) (List.mem_of_getElem? (i := 8) rfl) rfl (congrArg some (congrArg va_rf (wf_Networks_from hWS9 (hXS9 _ _ (hXS3 _ _ hl0A))).1)) dX7_judgeFlow_65 ?_
            refine wk_iload_n C dX7_judgeFlow_68 rfl rfl ?_
            obtain ⟨i15, h⟩ := h
            refine wk_iald C (wf_Networks_from hWS9 (hXS9 _ _ (hXS3 _ _ hl0A))).2.1 (wf_Networks_from hWS9 (hXS9 _ _ (hXS3 _ _ hl0A))).2.2 i15 rfl dX7_judgeFlow_69 ?_
            refine wk_dup2 C dX7_judgeFlow_70 rfl rfl ?_
            obtain ⟨i16, h⟩ := h
            refine wk_iald C (wf_Networks_excess hWS9 (hXS9 _ _ (hXS3 _ _ hl0A))).2.1 (wf_Networks_excess hWS9 (hXS9 _ _ (hXS3 _ _ hl0A))).2.2 i16 rfl dX7_judgeFlow_71 ?_
            refine wk_aload_n C dX7_judgeFlow_72 rfl rfl ?_
            refine wk_iload_n C dX7_judgeFlow_73 rfl rfl ?_
            refine wk_callV C hR (As := [.int l3I]) (cnt := 1) (tX9_at (l := l) hWS9 (hXS9 _ _ (hXS3 _ _ hl2A)) h) rfl (wkGoodV (List.mem_of_getElem? (i := 2) rfl) (List.mem_of_getElem? (i := 3) rfl) (List.mem_of_getElem? (i := 4) rfl) (List.mem_of_getElem? (i := 5) rfl) hbX7_judgeFlow_X9_at gdX9_at) (Nat.le_trans (by decide : 0 + 1 ≤ 2) hd) (by decide) (hXS9 _ _ (hXS3 _ _ hl2A)).1 (fun cy => wAt_9 cy _ (hXS9 _ _ (hXS3 _ _ hl2A)).2) rfl ⟨by decide, by decide, by decide +kernel⟩ rfl rfl (Nat.le_of_ble_eq_true rfl) (Nat.le_refl 0) (Nat.le_refl 0) dX7_judgeFlow_74 (fun v' S18 hp => ?_)
            obtain ⟨v17, rfl, h, hWS18, hXS18⟩ := hp
            refine wk_iadd C dX7_judgeFlow_77 rfl ?_
            obtain ⟨i22, h⟩ := h
            obtain ⟨S23, eS23, h⟩ := wkLt_some h
            refine wk_iast C (hXS18 _ _ (wf_Networks_excess hWS9 (hXS9 _ _ (hXS3 _ _ hl0A))).2).1 (hXS18 _ _ (wf_Networks_excess hWS9 (hXS9 _ _ (hXS3 _ _ hl0A))).2).2 i22 eS23.symm dX7_judgeFlow_78 ?_
            have hWS23 : wkWF S23 := by rw [eS23]; exact hWS18
            have hXS23 : wkExt S18 S23 := by rw [eS23]; exact wkExt.rf
            refine wk_aload_n C dX7_judgeFlow_79 rfl rfl ?_
            refine wk_get C huX7_judgeFlow_7 (hXS23 _ _ (hXS18 _ _ (hXS9 _ _ (hXS3 _ _ hl0A)))).1 (fun cy => wAt_7 cy _ (hXS23 _ _ (hXS18 _ _ (hXS9 _ _ (hXS3 _ _ hl0A)))).2) rfl 7 (by decide) (List.mem_of_getElem? (i := 7) rfl) rfl (congrArg some (congrArg va_rf (wf_Networks_excess hWS23 (hXS23 _ _ (hXS18 _ _ (hXS9 _ _ (hXS3 _ _ hl0A))))).1)) dX7_judgeFlow_80 ?_
            refine wk_aload_n C dX7_judgeFlow_83 rfl rfl ?_
            refine wk_get C huX7_judgeFlow_7 (hXS23 _ _ (hXS18 _ _ (hXS9 _ _ (hXS3 _ _ hl0A)))).1 (fun cy => wAt_7 cy _ (hXS23 _ _ (hXS18 _ _ (hXS9 _ _ (hXS3 _ _ hl0A)))).2) rfl 3 (by decide) (List.mem_of_getElem? (i := 9) rfl) rfl (congrArg some (congrArg va_rf (wf_Networks_to hWS23 (hXS23 _ _ (hXS18 _ _ (hXS9 _ _ (hXS3 _ _ hl0A))))).1)) dX7_judgeFlow_84 ?_
            refine wk_iload_n C dX7_judgeFlow_87 rfl rfl ?_
            obtain ⟨i24, h⟩ := h
            refine wk_iald C (wf_Networks_to hWS23 (hXS23 _ _ (hXS18 _ _ (hXS9 _ _ (hXS3 _ _ hl0A))))).2.1 (wf_Networks_to hWS23 (hXS23 _ _ (hXS18 _ _ (hXS9 _ _ (hXS3 _ _ hl0A))))).2.2 i24 rfl dX7_judgeFlow_88 ?_
            refine wk_dup2 C dX7_judgeFlow_89 rfl rfl ?_
            obtain ⟨i25, h⟩ := h
            refine wk_iald C (wf_Networks_excess hWS23 (hXS23 _ _ (hXS18 _ _ (hXS9 _ _ (hXS3 _ _ hl0A))))).2.1 (wf_Networks_excess hWS23 (hXS23 _ _ (hXS18 _ _ (hXS9 _ _ (hXS3 _ _ hl0A))))).2.2 i25 rfl dX7_judgeFlow_90 ?_
            refine wk_aload_n C dX7_judgeFlow_91 rfl rfl ?_
            refine wk_iload_n C dX7_judgeFlow_92 rfl rfl ?_
            refine wk_callV C hR (As := [.int l3I]) (cnt := 1) (tX9_at (l := l) hWS23 (hXS23 _ _ (hXS18 _ _ (hXS9 _ _ (hXS3 _ _ hl2A)))) h) rfl (wkGoodV (List.mem_of_getElem? (i := 2) rfl) (List.mem_of_getElem? (i := 3) rfl) (List.mem_of_getElem? (i := 4) rfl) (List.mem_of_getElem? (i := 5) rfl) hbX7_judgeFlow_X9_at gdX9_at) (Nat.le_trans (by decide : 0 + 1 ≤ 2) hd) (by decide) (hXS23 _ _ (hXS18 _ _ (hXS9 _ _ (hXS3 _ _ hl2A)))).1 (fun cy => wAt_9 cy _ (hXS23 _ _ (hXS18 _ _ (hXS9 _ _ (hXS3 _ _ hl2A)))).2) rfl ⟨by decide, by decide, by decide +kernel⟩ rfl rfl (Nat.le_of_ble_eq_true rfl) (Nat.le_refl 0) (Nat.le_refl 0) dX7_judgeFlow_93 (fun v' S27 hp => ?_)
            obtain ⟨v26, rfl, h, hWS27, hXS27⟩ := hp
            refine wk_isub C dX7_judgeFlow_96 rfl ?_
            obtain ⟨i31, h⟩ := h
            obtain ⟨S32, eS32, h⟩ := wkLt_some h
            refine wk_iast C (hXS27 _ _ (wf_Networks_excess hWS23 (hXS23 _ _ (hXS18 _ _ (hXS9 _ _ (hXS3 _ _ hl0A))))).2).1 (hXS27 _ _ (wf_Networks_excess hWS23 (hXS23 _ _ (hXS18 _ _ (hXS9 _ _ (hXS3 _ _ hl0A))))).2).2 i31 eS32.symm dX7_judgeFlow_97 ?_
            have hWS32 : wkWF S32 := by rw [eS32]; exact hWS27
            have hXS32 : wkExt S27 S32 := by rw [eS32]; exact wkExt.rf
            obtain ⟨x33, ex33, h⟩ := wkLt_some h
            refine wk_iinc C (lv' := [some (.ref l0A), some (.ref l1A), some (.ref l2A), some (.int x33)]) dX7_judgeFlow_98 rfl (by rw [ex33]; rfl) (by decide) rfl ?_
            refine wk_goto C (tgt := 28) dX7_judgeFlow_101 (by decide) ?_
            exact wk_forget (lv' := [some (.ref l0A), some (.ref l1A), some (.ref l2A), some (.int x33)]) (wkLs.le ⟨rfl, rfl, rfl, rfl, trivial⟩) (ih.1 _ _ _ _ _ hWS32 (wkExt.tr (wkExt.tr (wkExt.tr (wkExt.tr (wkExt.tr (wkExt.tr hE hXS3) hXS9) hXS18) hXS23) hXS27) hXS32) (hXS32 _ _ (hXS27 _ _ (hXS23 _ _ (hXS18 _ _ (hXS9 _ _ (hXS3 _ _ hl0A)))))) (hXS32 _ _ (hXS27 _ _ (hXS23 _ _ (hXS18 _ _ (hXS9 _ _ (hXS3 _ _ hl1A)))))) (hXS32 _ _ (hXS27 _ _ (hXS23 _ _ (hXS18 _ _ (hXS9 _ _ (hXS3 _ _ hl2A)))))) h)
          · rw [if_neg c14] at h
            refine wk_iconst C (v := 2) dX7_judgeFlow_58 (by decide) ?_
            exact E _ _ _ _ _ _ (Nat.le_refl 0) (Nat.le_refl 0) dX7_judgeFlow_59 ⟨(2 : Int32), rfl, h, hWS9, (wkExt.tr (wkExt.tr hE hXS3) hXS9)⟩
    · intro l0A l1A l3I S hW hE hl0A hl1A h
      have h : rX7_judgeFlow_b1 F (rX7_judgeFlow_go F k') l0A l1A l3I S Φ := by
        rw [rX7_judgeFlow_go, if_neg (show ¬ (1 : Nat) = 0 by decide), if_pos (rfl : (1 : Nat) = 1)] at h
        exact h
      unfold rX7_judgeFlow_b1 at h
      refine wk_iload_n C dX7_judgeFlow_106 rfl rfl ?_
      refine wk_aload_n C dX7_judgeFlow_107 rfl rfl ?_
      refine wk_get C (v := .int (gNetworks_nodeCount S l0A)) huX7_judgeFlow_7 hl0A.1 (fun cy => wAt_7 cy _ hl0A.2) rfl 8 (by decide) (List.mem_of_getElem? (i := 10) rfl) rfl rfl dX7_judgeFlow_108 ?_
      refine wk_iconst C (v := 1) dX7_judgeFlow_111 (by decide) ?_
      refine wk_isub C dX7_judgeFlow_112 rfl ?_
      refine wk_icmp_ge C (tgt := 133) dX7_judgeFlow_113 (by decide) (fun c34 => ?_) (fun c34 => ?_)
      · rw [if_pos c34] at h
        refine wk_aload_n C dX7_judgeFlow_133 rfl rfl ?_
        refine wk_get C huX7_judgeFlow_7 hl0A.1 (fun cy => wAt_7 cy _ hl0A.2) rfl 7 (by decide) (List.mem_of_getElem? (i := 7) rfl) rfl (congrArg some (congrArg va_rf (wf_Networks_excess hW hl0A).1)) dX7_judgeFlow_134 ?_
        refine wk_iconst C (v := 0) dX7_judgeFlow_137 (by decide) ?_
        obtain ⟨i35, h⟩ := h
        refine wk_iald C (wf_Networks_excess hW hl0A).2.1 (wf_Networks_excess hW hl0A).2.2 i35 rfl dX7_judgeFlow_138 ?_
        refine wk_aload_n C dX7_judgeFlow_139 rfl rfl ?_
        refine wk_get C (v := .int (gEntry_boundNow S l1A)) huX7_judgeFlow_3 hl1A.1 (fun cy => wAt_3 cy _ hl1A.2) rfl 8 (by decide) (List.mem_of_getElem? (i := 11) rfl) rfl rfl dX7_judgeFlow_140 ?_
        refine wk_icmp_ne C (tgt := 150) dX7_judgeFlow_143 (by decide) (fun c36 => ?_) (fun c36 => ?_)
        · rw [if_neg c36] at h
          refine wk_iconst C (v := 4) dX7_judgeFlow_150 (by decide) ?_
          exact E _ _ _ _ _ _ (Nat.le_refl 0) (Nat.le_refl 0) dX7_judgeFlow_151 ⟨(4 : Int32), rfl, h, hW, hE⟩
        · rw [if_pos c36] at h
          refine wk_iconst C (v := 0) dX7_judgeFlow_146 (by decide) ?_
          refine wk_goto C (tgt := 151) dX7_judgeFlow_147 (by decide) ?_
          exact E _ _ _ _ _ _ (Nat.le_refl 0) (Nat.le_refl 0) dX7_judgeFlow_151 ⟨(0 : Int32), rfl, h, hW, hE⟩
      · rw [if_neg c34] at h
        refine wk_aload_n C dX7_judgeFlow_116 rfl rfl ?_
        refine wk_get C huX7_judgeFlow_7 hl0A.1 (fun cy => wAt_7 cy _ hl0A.2) rfl 7 (by decide) (List.mem_of_getElem? (i := 7) rfl) rfl (congrArg some (congrArg va_rf (wf_Networks_excess hW hl0A).1)) dX7_judgeFlow_117 ?_
        refine wk_iload_n C dX7_judgeFlow_120 rfl rfl ?_
        obtain ⟨i37, h⟩ := h
        refine wk_iald C (wf_Networks_excess hW hl0A).2.1 (wf_Networks_excess hW hl0A).2.2 i37 rfl dX7_judgeFlow_121 ?_
        refine wk_if_eq C (tgt := 127) dX7_judgeFlow_122 (by decide) (fun c38 => ?_) (fun c38 => ?_)
        · rw [if_pos c38] at h
          obtain ⟨x39, ex39, h⟩ := wkLt_some h
          refine wk_iinc C (lv' := [some (.ref l0A), some (.ref l1A), none, some (.int x39)]) dX7_judgeFlow_127 rfl (by rw [ex39]; rfl) (by decide) rfl ?_
          refine wk_goto C (tgt := 106) dX7_judgeFlow_130 (by decide) ?_
          exact wk_forget (lv' := [some (.ref l0A), some (.ref l1A), none, some (.int x39)]) (wkLs.le ⟨rfl, rfl, rfl, trivial⟩) (ih.2 _ _ _ _ hW hE hl0A hl1A h)
        · rw [if_neg c38] at h
          refine wk_iconst C (v := 3) dX7_judgeFlow_125 (by decide) ?_
          exact E _ _ _ _ _ _ (Nat.le_refl 0) (Nat.le_refl 0) dX7_judgeFlow_126 ⟨(3 : Int32), rfl, h, hW, hE⟩
set_option maxHeartbeats 4000000 in
set_option maxRecDepth 100000 in
theorem tX7_judgeFlow {l : Launch} {g : wkG} {F : Nat}  {S : wPS} {l0A : Nat} {l1A : Nat} {l2A : Nat} {Φ : (Int32 → wPS → Prop)} (hW : wkWF S) (hl0A : wkIs S l0A 7) (hl1A : wkIs S l1A 3) (hl2A : wkIs S l2A 9) (h : rX7_judgeFlow F l0A l1A l2A S Φ) : wkMet l g yX7_judgeFlow wvX7_judgeFlow 2 0 0 [.ref l0A, .ref l1A, .ref l2A] S (fun v' S'' => ∃ v : Int32, v' = some (.int v) ∧ Φ v S'' ∧ wkWF S'' ∧ wkExt S S'') := by
  refine wkMet_of (ret := (some .int)) (by decide) rfl (Nat.le_of_ble_eq_true rfl) (fun X hg C hR E => ?_)
  subst hg
  have hE : wkExt S S := wkExt.rf
  have hd : 2 ≤ 2 := Nat.le_refl _
  show wkGo l X 4 0 0 0 S [some (.ref l0A), some (.ref l1A), some (.ref l2A), none] []
  have ih := tX7_judgeFlow_go (F := F) C hR hd E F
  have h : rX7_judgeFlow_s F (rX7_judgeFlow_go F F) l0A l1A l2A S Φ := h
  unfold rX7_judgeFlow_s at h
  refine wk_aload_n C dX7_judgeFlow_0 rfl rfl ?_
  refine wk_aload_n C dX7_judgeFlow_1 rfl rfl ?_
  refine wk_callV C hR (As := [.ref l1A]) (cnt := 1) (tX7_loadFlows (l := l) hW hl0A hl1A h) rfl (wkGoodV (List.mem_of_getElem? (i := 12) rfl) (List.mem_of_getElem? (i := 13) rfl) (List.mem_of_getElem? (i := 14) rfl) (List.mem_of_getElem? (i := 15) rfl) hbX7_judgeFlow_X7_loadFlows gdX7_loadFlows) (Nat.le_trans (by decide : 1 + 1 ≤ 2) hd) (by decide) hl0A.1 (fun cy => wAt_7 cy _ hl0A.2) rfl ⟨by decide, by decide, by decide +kernel⟩ rfl rfl (Nat.le_of_ble_eq_true rfl) (Nat.le_refl 0) (Nat.le_refl 0) dX7_judgeFlow_2 (fun v' S41 hp => ?_)
  obtain ⟨v40, rfl, h, hWS41, hXS41⟩ := hp
  refine wk_aload_n C dX7_judgeFlow_5 rfl rfl ?_
  refine wk_get C (v := .int (gRow_count S41 l2A)) huX7_judgeFlow_9 (hXS41 _ _ hl2A).1 (fun cy => wAt_9 cy _ (hXS41 _ _ hl2A).2) rfl 1 (by decide) (List.mem_of_getElem? (i := 16) rfl) rfl rfl dX7_judgeFlow_6 ?_
  refine wk_aload_n C dX7_judgeFlow_9 rfl rfl ?_
  refine wk_get C (v := .int (gNetworks_itemCount S41 l0A)) huX7_judgeFlow_7 (hXS41 _ _ hl0A).1 (fun cy => wAt_7 cy _ (hXS41 _ _ hl0A).2) rfl 9 (by decide) (List.mem_of_getElem? (i := 1) rfl) rfl rfl dX7_judgeFlow_10 ?_
  refine wk_icmp_eq C (tgt := 18) dX7_judgeFlow_13 (by decide) (fun c45 => ?_) (fun c45 => ?_)
  · rw [if_pos c45] at h
    refine wk_aload_n C dX7_judgeFlow_18 rfl rfl ?_
    refine wk_get C huX7_judgeFlow_7 (hXS41 _ _ hl0A).1 (fun cy => wAt_7 cy _ (hXS41 _ _ hl0A).2) rfl 7 (by decide) (List.mem_of_getElem? (i := 7) rfl) rfl (congrArg some (congrArg va_rf (wf_Networks_excess hWS41 (hXS41 _ _ hl0A)).1)) dX7_judgeFlow_19 ?_
    refine wk_iconst C (v := 0) dX7_judgeFlow_22 (by decide) ?_
    refine wk_callW C hR (As := [.ref (wkAd (gNetworks_excess S41 l0A)), .int (0 : Int32)]) (cnt := 2) (tJ7_fill_53178 (l := l) hWS41 (wf_Networks_excess hWS41 (hXS41 _ _ hl0A)).2 h) rfl (wkGoodW (List.mem_of_getElem? (i := 17) rfl) (List.mem_of_getElem? (i := 18) rfl) (List.mem_of_getElem? (i := 19) rfl) hbX7_judgeFlow_J7_fill_53178 gdJ7_fill_53178) (Nat.le_trans (by decide : 0 + 1 ≤ 2) hd) (by decide) ⟨by decide, by decide, by decide +kernel⟩ rfl rfl (Nat.le_of_ble_eq_true rfl) (Nat.le_refl 0) (Nat.le_refl 0) dX7_judgeFlow_23 (fun v' S47 hp => ?_)
    obtain ⟨v46, rfl, h, hWS47, hXS47⟩ := hp
    refine wk_iconst C (v := 0) dX7_judgeFlow_26 (by decide) ?_
    refine wk_istore_n C (lv' := [some (.ref l0A), some (.ref l1A), some (.ref l2A), some (.int (0 : Int32))]) dX7_judgeFlow_27 rfl (by decide) rfl ?_
    exact wk_forget (lv' := [some (.ref l0A), some (.ref l1A), some (.ref l2A), some (.int (0 : Int32))]) (wkLs.le ⟨rfl, rfl, rfl, rfl, trivial⟩) (ih.1 _ _ _ _ _ hWS47 (wkExt.tr (wkExt.tr hE hXS41) hXS47) (hXS47 _ _ (hXS41 _ _ hl0A)) (hXS47 _ _ (hXS41 _ _ hl1A)) (hXS47 _ _ (hXS41 _ _ hl2A)) h)
  · rw [if_neg c45] at h
    refine wk_iconst C (v := 1) dX7_judgeFlow_16 (by decide) ?_
    exact E _ _ _ _ _ _ (Nat.le_refl 0) (Nat.le_refl 0) dX7_judgeFlow_17 ⟨(1 : Int32), rfl, h, hWS41, (wkExt.tr hE hXS41)⟩
def wvX7_judgeBar : List Cond := .code yX7_judgeBar cX7_judgeBar 5 (some .int) :: (([.fieldLink RX7 147 "Witnessworks$Networks" "itemCount" "I", .fieldLink RX7 46 "Witnessworks$Entry" "boundNow" "I", .fieldLink RX7 18 "Witnessworks$Networks" "from" "[I", .methodLink RX7 165 yX9_holds, .instanceMethod yX9_holds, .selects RX9 yX9_holds yX9_holds, .initialized RX9, .fieldLink RX7 21 "Witnessworks$Networks" "to" "[I", .fieldLink RX7 24 "Witnessworks$Networks" "caps" "[I", .methodLink RX7 126 yX7_loadFlows, .instanceMethod yX7_loadFlows, .selects RX7 yX7_loadFlows yX7_loadFlows, .initialized RX7, .fieldLink RX7 103 "Witnessworks$Row" "count" "I", .methodLink RX7 110 yX9_at, .instanceMethod yX9_at, .selects RX9 yX9_at yX9_at, .methodLink RX7 113 yX9_isRising, .instanceMethod yX9_isRising, .selects RX9 yX9_isRising yX9_isRising, .fieldLink RX7 138 "Witnessworks$Networks" "nodeCount" "I", .methodLink RX7 106 yX9_liesWithin, .instanceMethod yX9_liesWithin, .selects RX9 yX9_liesWithin yX9_liesWithin] : List Cond) ++ ((wsX70 ++ (wsX30 ++ (wsX90))) ++ (wvX9_holds ++ (wvX7_loadFlows ++ (wvX9_at ++ (wvX9_isRising ++ (wvX9_liesWithin)))))))
theorem huX7_judgeBar_7 : ∀ w ∈ u_ws RX7 TX7 11, w ∈ wvX7_judgeBar := fun w h => List.mem_cons_of_mem _ (List.mem_append_right _ (List.mem_append_left _ (List.mem_append_left _ h)))
theorem huX7_judgeBar_3 : ∀ w ∈ u_ws RX3 TX3 17, w ∈ wvX7_judgeBar := fun w h => List.mem_cons_of_mem _ (List.mem_append_right _ (List.mem_append_left _ (List.mem_append_right _ (List.mem_append_left _ h))))
theorem huX7_judgeBar_9 : ∀ w ∈ u_ws RX9 TX9 2, w ∈ wvX7_judgeBar := fun w h => List.mem_cons_of_mem _ (List.mem_append_right _ (List.mem_append_left _ (List.mem_append_right _ (List.mem_append_right _ h))))
theorem hbX7_judgeBar_X9_holds : ∀ w ∈ wvX9_holds, w ∈ wvX7_judgeBar := fun w h => List.mem_cons_of_mem _ (List.mem_append_right _ (List.mem_append_right _ (List.mem_append_left _ h)))
theorem hbX7_judgeBar_X7_loadFlows : ∀ w ∈ wvX7_loadFlows, w ∈ wvX7_judgeBar := fun w h => List.mem_cons_of_mem _ (List.mem_append_right _ (List.mem_append_right _ (List.mem_append_right _ (List.mem_append_left _ h))))
theorem hbX7_judgeBar_X9_at : ∀ w ∈ wvX9_at, w ∈ wvX7_judgeBar := fun w h => List.mem_cons_of_mem _ (List.mem_append_right _ (List.mem_append_right _ (List.mem_append_right _ (List.mem_append_right _ (List.mem_append_left _ h)))))
theorem hbX7_judgeBar_X9_isRising : ∀ w ∈ wvX9_isRising, w ∈ wvX7_judgeBar := fun w h => List.mem_cons_of_mem _ (List.mem_append_right _ (List.mem_append_right _ (List.mem_append_right _ (List.mem_append_right _ (List.mem_append_right _ (List.mem_append_left _ h))))))
theorem hbX7_judgeBar_X9_liesWithin : ∀ w ∈ wvX9_liesWithin, w ∈ wvX7_judgeBar := fun w h => List.mem_cons_of_mem _ (List.mem_append_right _ (List.mem_append_right _ (List.mem_append_right _ (List.mem_append_right _ (List.mem_append_right _ (List.mem_append_right _ h))))))
theorem gdX7_judgeBar : ∀ w ∈ wvX7_judgeBar, wkGd w := wkGdC rfl (wkGdA (wkGdL (by decide +kernel)) (wkGdA (wkGdA gdX7 (wkGdA gdX3 gdX9)) (wkGdA gdX9_holds (wkGdA gdX7_loadFlows (wkGdA gdX9_at (wkGdA gdX9_isRising gdX9_liesWithin))))))
def rX7_judgeBar_b0 (F : Nat) (rec : Nat → Nat → Nat → Nat → Int32 → Int32 → wPS → (Int32 → wPS → Prop) → Prop) (l0A : Nat) (l1A : Nat) (l2A : Nat) (l3I : Int32) (l4I : Int32) (S : wPS) (Φ : (Int32 → wPS → Prop)) : Prop :=
  if (gNetworks_itemCount S l0A) ≤ l4I then (if (gEntry_boundNow S l1A) ≤ l3I then (Φ (2 : Int32) S) else (Φ (0 : Int32) S)) else (¬ (l4I < 0 ∨ S.len (wkAd (gNetworks_from S l0A)) ≤ (l4I).toNatClampNeg) ∧ rX9_holds F l2A (0 : Int32) (S.rI (wkAd (gNetworks_from S l0A)) (l4I).toNatClampNeg) S fun v4 S5 => if v4 = 0 then (wkLt (l4I + (1 : Int32)) fun x10 => rec 0 l0A l1A l2A l3I x10 S5 Φ) else (¬ (l4I < 0 ∨ S5.len (wkAd (gNetworks_to S5 l0A)) ≤ (l4I).toNatClampNeg) ∧ rX9_holds F l2A (0 : Int32) (S5.rI (wkAd (gNetworks_to S5 l0A)) (l4I).toNatClampNeg) S5 fun v12 S13 => if v12 = 0 then (¬ (l4I < 0 ∨ S13.len (wkAd (gNetworks_caps S13 l0A)) ≤ (l4I).toNatClampNeg) ∧ wkLt ((l3I + (S13.rI (wkAd (gNetworks_caps S13 l0A)) (l4I).toNatClampNeg))) fun x20 => wkLt (l4I + (1 : Int32)) fun x21 => rec 0 l0A l1A l2A x20 x21 S13 Φ) else (wkLt (l4I + (1 : Int32)) fun x18 => rec 0 l0A l1A l2A l3I x18 S13 Φ)))
def rX7_judgeBar_go (F : Nat) : Nat → Nat → Nat → Nat → Nat → Int32 → Int32 → wPS → (Int32 → wPS → Prop) → Prop
  | 0, _, _, _, _, _, _, _, _ => False
  | k' + 1, lab, l0A, l1A, l2A, l3I, l4I, S, Φ => if lab = 0 then rX7_judgeBar_b0 F (rX7_judgeBar_go F k') l0A l1A l2A l3I l4I S Φ else False
def rX7_judgeBar_s (F : Nat) (rec : Nat → Nat → Nat → Nat → Int32 → Int32 → wPS → (Int32 → wPS → Prop) → Prop) (l0A : Nat) (l1A : Nat) (l2A : Nat) (S : wPS) (Φ : (Int32 → wPS → Prop)) : Prop :=
  rX7_loadFlows F l0A l1A S fun v22 S23 => if (gRow_count S23 l2A) = 0 then (Φ (1 : Int32) S23) else (rX9_at F l2A (0 : Int32) S23 fun v28 S29 => if v28 = 0 then (rX9_isRising F l2A (0 : Int32) S29 fun v34 S35 => if v34 = 0 then (Φ (1 : Int32) S35) else (rX9_liesWithin F l2A (0 : Int32) (0 : Int32) ((gNetworks_nodeCount S35 l0A) - (2 : Int32)) S35 fun v40 S41 => if v40 = 0 then (Φ (1 : Int32) S41) else (rec 0 l0A l1A l2A (0 : Int32) (0 : Int32) S41 Φ))) else (Φ (1 : Int32) S29))
def rX7_judgeBar (F : Nat) (l0A : Nat) (l1A : Nat) (l2A : Nat) (S : wPS) (Φ : (Int32 → wPS → Prop)) : Prop := rX7_judgeBar_s F (rX7_judgeBar_go F F) l0A l1A l2A S Φ
set_option maxHeartbeats 4000000 in
set_option maxRecDepth 100000 in
theorem tX7_judgeBar_go {l : Launch} {X : wkX} {d F : Nat} {S0 : wPS} {Φ : (Int32 → wPS → Prop)} (C : wkC X cX7_judgeBar RX7 5 wvX7_judgeBar) (hR : wkRm X d 0 0) (hd : 2 ≤ d) (E : wkEnd l X cX7_judgeBar 5 (some .int) 0 0 (fun v' S'' => ∃ v : Int32, v' = some (.int v) ∧ Φ v S'' ∧ wkWF S'' ∧ wkExt S0 S'')) : ∀ k' : Nat, (∀ (l0A : Nat) (l1A : Nat) (l2A : Nat) (l3I : Int32) (l4I : Int32) (S : wPS), wkWF S → wkExt S0 S → wkIs S l0A 7 → wkIs S l1A 3 → wkIs S l2A 9 → rX7_judgeBar_go F k' 0 l0A l1A l2A l3I l4I S Φ → wkGo l X 5 0 0 50 S [some (.ref l0A), some (.ref l1A), some (.ref l2A), some (.int l3I), some (.int l4I)] []) := by
  intro k'
  induction k' with
  | zero => exact fun l0A l1A l2A l3I l4I S hW hE hl0A hl1A hl2A h => h.elim
  | succ k' ih =>
    · intro l0A l1A l2A l3I l4I S hW hE hl0A hl1A hl2A h
      have h : rX7_judgeBar_b0 F (rX7_judgeBar_go F k') l0A l1A l2A l3I l4I S Φ := by
        rw [rX7_judgeBar_go, if_pos (rfl : (0 : Nat) = 0)] at h
        exact h
      unfold rX7_judgeBar_b0 at h
      refine wk_iload C dX7_judgeBar_50 rfl ?_
      refine wk_aload_n C dX7_judgeBar_52 rfl rfl ?_
      refine wk_get C (v := .int (gNetworks_itemCount S l0A)) huX7_judgeBar_7 hl0A.1 (fun cy => wAt_7 cy _ hl0A.2) rfl 9 (by decide) (List.mem_of_getElem? (i := 1) rfl) rfl rfl dX7_judgeBar_53 ?_
      refine wk_icmp_ge C (tgt := 105) dX7_judgeBar_56 (by decide) (fun c1 => ?_) (fun c1 => ?_)
      · rw [if_pos c1] at h
        refine wk_iload_n C dX7_judgeBar_105 rfl rfl ?_
        refine wk_aload_n C dX7_judgeBar_106 rfl rfl ?_
        refine wk_get C (v := .int (gEntry_boundNow S l1A)) huX7_judgeBar_3 hl1A.1 (fun cy => wAt_3 cy _ hl1A.2) rfl 8 (by decide) (List.mem_of_getElem? (i := 2) rfl) rfl rfl dX7_judgeBar_107 ?_
        refine wk_icmp_ge C (tgt := 117) dX7_judgeBar_110 (by decide) (fun c2 => ?_) (fun c2 => ?_)
        · rw [if_pos c2] at h
          refine wk_iconst C (v := 2) dX7_judgeBar_117 (by decide) ?_
          exact E _ _ _ _ _ _ (Nat.le_refl 0) (Nat.le_refl 0) dX7_judgeBar_118 ⟨(2 : Int32), rfl, h, hW, hE⟩
        · rw [if_neg c2] at h
          refine wk_iconst C (v := 0) dX7_judgeBar_113 (by decide) ?_
          refine wk_goto C (tgt := 118) dX7_judgeBar_114 (by decide) ?_
          exact E _ _ _ _ _ _ (Nat.le_refl 0) (Nat.le_refl 0) dX7_judgeBar_118 ⟨(0 : Int32), rfl, h, hW, hE⟩
      · rw [if_neg c1] at h
        refine wk_aload_n C dX7_judgeBar_59 rfl rfl ?_
        refine wk_iconst C (v := 0) dX7_judgeBar_60 (by decide) ?_
        refine wk_aload_n C dX7_judgeBar_61 rfl rfl ?_
        refine wk_get C huX7_judgeBar_7 hl0A.1 (fun cy => wAt_7 cy _ hl0A.2) rfl 2 (by decide) (List.mem_of_getElem? (i := 3) rfl) rfl (congrArg some (congrArg va_rf (wf_Networks_from hW hl0A).1)) dX7_judgeBar_62 ?_
        refine wk_iload C dX7_judgeBar_65 rfl ?_
        obtain ⟨i3, h⟩ := h
        refine wk_iald C (wf_Networks_from hW hl0A).2.1 (wf_Networks_from hW hl0A).2.2 i3 rfl dX7_judgeBar_67 ?_
        refine wk_callV C hR (As := [.int (0 : Int32), .int (S.rI (wkAd (gNetworks_from S l0A)) (l4I).toNatClampNeg)]) (cnt := 2) (tX9_holds (l := l) hW hl2A h) rfl (wkGoodV (List.mem_of_getElem? (i := 4) rfl) (List.mem_of_getElem? (i := 5) rfl) (List.mem_of_getElem? (i := 6) rfl) (List.mem_of_getElem? (i := 7) rfl) hbX7_judgeBar_X9_holds gdX9_holds) (Nat.le_trans (by decide : 0 + 1 ≤ 2) hd) (by decide) hl2A.1 (fun cy => wAt_9 cy _ hl2A.2) rfl ⟨by decide, by decide, by decide +kernel⟩ rfl rfl (Nat.le_of_ble_eq_true rfl) (Nat.le_refl 0) (Nat.le_refl 0) dX7_judgeBar_68 (fun v' S5 hp => ?_)
        obtain ⟨v4, rfl, h, hWS5, hXS5⟩ := hp
        refine wk_if_eq C (tgt := 99) dX7_judgeBar_71 (by decide) (fun c9 => ?_) (fun c9 => ?_)
        · rw [if_pos c9] at h
          obtain ⟨x10, ex10, h⟩ := wkLt_some h
          refine wk_iinc C (lv' := [some (.ref l0A), some (.ref l1A), some (.ref l2A), some (.int l3I), some (.int x10)]) dX7_judgeBar_99 rfl (by rw [ex10]; rfl) (by decide) rfl ?_
          refine wk_goto C (tgt := 50) dX7_judgeBar_102 (by decide) ?_
          exact wk_forget (lv' := [some (.ref l0A), some (.ref l1A), some (.ref l2A), some (.int l3I), some (.int x10)]) (wkLs.le ⟨rfl, rfl, rfl, rfl, rfl, trivial⟩) (ih _ _ _ _ _ _ hWS5 (wkExt.tr hE hXS5) (hXS5 _ _ hl0A) (hXS5 _ _ hl1A) (hXS5 _ _ hl2A) h)
        · rw [if_neg c9] at h
          refine wk_aload_n C dX7_judgeBar_74 rfl rfl ?_
          refine wk_iconst C (v := 0) dX7_judgeBar_75 (by decide) ?_
          refine wk_aload_n C dX7_judgeBar_76 rfl rfl ?_
          refine wk_get C huX7_judgeBar_7 (hXS5 _ _ hl0A).1 (fun cy => wAt_7 cy _ (hXS5 _ _ hl0A).2) rfl 3 (by decide) (List.mem_of_getElem? (i := 8) rfl) rfl (congrArg some (congrArg va_rf (wf_Networks_to hWS5 (hXS5 _ _ hl0A)).1)) dX7_judgeBar_77 ?_
          refine wk_iload C dX7_judgeBar_80 rfl ?_
          obtain ⟨i11, h⟩ := h
          refine wk_iald C (wf_Networks_to hWS5 (hXS5 _ _ hl0A)).2.1 (wf_Networks_to hWS5 (hXS5 _ _ hl0A)).2.2 i11 rfl dX7_judgeBar_82 ?_
          refine wk_callV C hR (As := [.int (0 : Int32), .int (S5.rI (wkAd (gNetworks_to S5 l0A)) (l4I).toNatClampNeg)]) (cnt := 2) (tX9_holds (l := l) hWS5 (hXS5 _ _ hl2A) h) rfl (wkGoodV (List.mem_of_getElem? (i := 4) rfl) (List.mem_of_getElem? (i := 5) rfl) (List.mem_of_getElem? (i := 6) rfl) (List.mem_of_getElem? (i := 7) rfl) hbX7_judgeBar_X9_holds gdX9_holds) (Nat.le_trans (by decide : 0 + 1 ≤ 2) hd) (by decide) (hXS5 _ _ hl2A).1 (fun cy => wAt_9 cy _ (hXS5 _ _ hl2A).2) rfl ⟨by decide, by decide, by decide +kernel⟩ rfl rfl (Nat.le_of_ble_eq_true rfl) (Nat.le_refl 0) (Nat.le_refl 0) dX7_judgeBar_83 (fun v' S13 hp => ?_)
          obtain ⟨v12, rfl, h, hWS13, hXS13⟩ := hp
          refine wk_if_ne C (tgt := 99) dX7_judgeBar_86 (by decide) (fun c17 => ?_) (fun c17 => ?_)
          · rw [if_neg c17] at h
            obtain ⟨x18, ex18, h⟩ := wkLt_some h
            refine wk_iinc C (lv' := [some (.ref l0A), some (.ref l1A), some (.ref l2A), some (.int l3I), some (.int x18)]) dX7_judgeBar_99 rfl (by rw [ex18]; rfl) (by decide) rfl ?_
            refine wk_goto C (tgt := 50) dX7_judgeBar_102 (by decide) ?_
            exact wk_forget (lv' := [some (.ref l0A), some (.ref l1A), some (.ref l2A), some (.int l3I), some (.int x18)]) (wkLs.le ⟨rfl, rfl, rfl, rfl, rfl, trivial⟩) (ih _ _ _ _ _ _ hWS13 (wkExt.tr (wkExt.tr hE hXS5) hXS13) (hXS13 _ _ (hXS5 _ _ hl0A)) (hXS13 _ _ (hXS5 _ _ hl1A)) (hXS13 _ _ (hXS5 _ _ hl2A)) h)
          · rw [if_pos c17] at h
            refine wk_iload_n C dX7_judgeBar_89 rfl rfl ?_
            refine wk_aload_n C dX7_judgeBar_90 rfl rfl ?_
            refine wk_get C huX7_judgeBar_7 (hXS13 _ _ (hXS5 _ _ hl0A)).1 (fun cy => wAt_7 cy _ (hXS13 _ _ (hXS5 _ _ hl0A)).2) rfl 4 (by decide) (List.mem_of_getElem? (i := 9) rfl) rfl (congrArg some (congrArg va_rf (wf_Networks_caps hWS13 (hXS13 _ _ (hXS5 _ _ hl0A))).1)) dX7_judgeBar_91 ?_
            refine wk_iload C dX7_judgeBar_94 rfl ?_
            obtain ⟨i19, h⟩ := h
            refine wk_iald C (wf_Networks_caps hWS13 (hXS13 _ _ (hXS5 _ _ hl0A))).2.1 (wf_Networks_caps hWS13 (hXS13 _ _ (hXS5 _ _ hl0A))).2.2 i19 rfl dX7_judgeBar_96 ?_
            refine wk_iadd C dX7_judgeBar_97 rfl ?_
            obtain ⟨x20, ex20, h⟩ := wkLt_some h
            refine wk_topi ex20 ?_
            refine wk_istore_n C (lv' := [some (.ref l0A), some (.ref l1A), some (.ref l2A), some (.int x20), some (.int l4I)]) dX7_judgeBar_98 rfl (by decide) rfl ?_
            obtain ⟨x21, ex21, h⟩ := wkLt_some h
            refine wk_iinc C (lv' := [some (.ref l0A), some (.ref l1A), some (.ref l2A), some (.int x20), some (.int x21)]) dX7_judgeBar_99 rfl (by rw [ex21]; rfl) (by decide) rfl ?_
            refine wk_goto C (tgt := 50) dX7_judgeBar_102 (by decide) ?_
            exact wk_forget (lv' := [some (.ref l0A), some (.ref l1A), some (.ref l2A), some (.int x20), some (.int x21)]) (wkLs.le ⟨rfl, rfl, rfl, rfl, rfl, trivial⟩) (ih _ _ _ _ _ _ hWS13 (wkExt.tr (wkExt.tr hE hXS5) hXS13) (hXS13 _ _ (hXS5 _ _ hl0A)) (hXS13 _ _ (hXS5 _ _ hl1A)) (hXS13 _ _ (hXS5 _ _ hl2A)) h)
set_option maxHeartbeats 4000000 in
set_option maxRecDepth 100000 in
theorem tX7_judgeBar {l : Launch} {g : wkG} {F : Nat}  {S : wPS} {l0A : Nat} {l1A : Nat} {l2A : Nat} {Φ : (Int32 → wPS → Prop)} (hW : wkWF S) (hl0A : wkIs S l0A 7) (hl1A : wkIs S l1A 3) (hl2A : wkIs S l2A 9) (h : rX7_judgeBar F l0A l1A l2A S Φ) : wkMet l g yX7_judgeBar wvX7_judgeBar 2 0 0 [.ref l0A, .ref l1A, .ref l2A] S (fun v' S'' => ∃ v : Int32, v' = some (.int v) ∧ Φ v S'' ∧ wkWF S'' ∧ wkExt S S'') := by
  refine wkMet_of (ret := (some .int)) (by decide) rfl (Nat.le_of_ble_eq_true rfl) (fun X hg C hR E => ?_)
  subst hg
  have hE : wkExt S S := wkExt.rf
  have hd : 2 ≤ 2 := Nat.le_refl _
  show wkGo l X 5 0 0 0 S [some (.ref l0A), some (.ref l1A), some (.ref l2A), none, none] []
  have ih := tX7_judgeBar_go (F := F) C hR hd E F
  have h : rX7_judgeBar_s F (rX7_judgeBar_go F F) l0A l1A l2A S Φ := h
  unfold rX7_judgeBar_s at h
  refine wk_aload_n C dX7_judgeBar_0 rfl rfl ?_
  refine wk_aload_n C dX7_judgeBar_1 rfl rfl ?_
  refine wk_callV C hR (As := [.ref l1A]) (cnt := 1) (tX7_loadFlows (l := l) hW hl0A hl1A h) rfl (wkGoodV (List.mem_of_getElem? (i := 10) rfl) (List.mem_of_getElem? (i := 11) rfl) (List.mem_of_getElem? (i := 12) rfl) (List.mem_of_getElem? (i := 13) rfl) hbX7_judgeBar_X7_loadFlows gdX7_loadFlows) (Nat.le_trans (by decide : 1 + 1 ≤ 2) hd) (by decide) hl0A.1 (fun cy => wAt_7 cy _ hl0A.2) rfl ⟨by decide, by decide, by decide +kernel⟩ rfl rfl (Nat.le_of_ble_eq_true rfl) (Nat.le_refl 0) (Nat.le_refl 0) dX7_judgeBar_2 (fun v' S23 hp => ?_)
  obtain ⟨v22, rfl, h, hWS23, hXS23⟩ := hp
  refine wk_aload_n C dX7_judgeBar_5 rfl rfl ?_
  refine wk_get C (v := .int (gRow_count S23 l2A)) huX7_judgeBar_9 (hXS23 _ _ hl2A).1 (fun cy => wAt_9 cy _ (hXS23 _ _ hl2A).2) rfl 1 (by decide) (List.mem_of_getElem? (i := 14) rfl) rfl rfl dX7_judgeBar_6 ?_
  refine wk_if_eq C (tgt := 43) dX7_judgeBar_9 (by decide) (fun c27 => ?_) (fun c27 => ?_)
  · rw [if_pos c27] at h
    refine wk_iconst C (v := 1) dX7_judgeBar_43 (by decide) ?_
    exact E _ _ _ _ _ _ (Nat.le_refl 0) (Nat.le_refl 0) dX7_judgeBar_44 ⟨(1 : Int32), rfl, h, hWS23, (wkExt.tr hE hXS23)⟩
  · rw [if_neg c27] at h
    refine wk_aload_n C dX7_judgeBar_12 rfl rfl ?_
    refine wk_iconst C (v := 0) dX7_judgeBar_13 (by decide) ?_
    refine wk_callV C hR (As := [.int (0 : Int32)]) (cnt := 1) (tX9_at (l := l) hWS23 (hXS23 _ _ hl2A) h) rfl (wkGoodV (List.mem_of_getElem? (i := 15) rfl) (List.mem_of_getElem? (i := 16) rfl) (List.mem_of_getElem? (i := 17) rfl) (List.mem_of_getElem? (i := 7) rfl) hbX7_judgeBar_X9_at gdX9_at) (Nat.le_trans (by decide : 0 + 1 ≤ 2) hd) (by decide) (hXS23 _ _ hl2A).1 (fun cy => wAt_9 cy _ (hXS23 _ _ hl2A).2) rfl ⟨by decide, by decide, by decide +kernel⟩ rfl rfl (Nat.le_of_ble_eq_true rfl) (Nat.le_refl 0) (Nat.le_refl 0) dX7_judgeBar_14 (fun v' S29 hp => ?_)
    obtain ⟨v28, rfl, h, hWS29, hXS29⟩ := hp
    refine wk_if_ne C (tgt := 43) dX7_judgeBar_17 (by decide) (fun c33 => ?_) (fun c33 => ?_)
    · rw [if_neg c33] at h
      refine wk_iconst C (v := 1) dX7_judgeBar_43 (by decide) ?_
      exact E _ _ _ _ _ _ (Nat.le_refl 0) (Nat.le_refl 0) dX7_judgeBar_44 ⟨(1 : Int32), rfl, h, hWS29, (wkExt.tr (wkExt.tr hE hXS23) hXS29)⟩
    · rw [if_pos c33] at h
      refine wk_aload_n C dX7_judgeBar_20 rfl rfl ?_
      refine wk_iconst C (v := 0) dX7_judgeBar_21 (by decide) ?_
      refine wk_callV C hR (As := [.int (0 : Int32)]) (cnt := 1) (tX9_isRising (l := l) hWS29 (hXS29 _ _ (hXS23 _ _ hl2A)) h) rfl (wkGoodV (List.mem_of_getElem? (i := 18) rfl) (List.mem_of_getElem? (i := 19) rfl) (List.mem_of_getElem? (i := 20) rfl) (List.mem_of_getElem? (i := 7) rfl) hbX7_judgeBar_X9_isRising gdX9_isRising) (Nat.le_trans (by decide : 0 + 1 ≤ 2) hd) (by decide) (hXS29 _ _ (hXS23 _ _ hl2A)).1 (fun cy => wAt_9 cy _ (hXS29 _ _ (hXS23 _ _ hl2A)).2) rfl ⟨by decide, by decide, by decide +kernel⟩ rfl rfl (Nat.le_of_ble_eq_true rfl) (Nat.le_refl 0) (Nat.le_refl 0) dX7_judgeBar_22 (fun v' S35 hp => ?_)
      obtain ⟨v34, rfl, h, hWS35, hXS35⟩ := hp
      refine wk_if_eq C (tgt := 43) dX7_judgeBar_25 (by decide) (fun c39 => ?_) (fun c39 => ?_)
      · rw [if_pos c39] at h
        refine wk_iconst C (v := 1) dX7_judgeBar_43 (by decide) ?_
        exact E _ _ _ _ _ _ (Nat.le_refl 0) (Nat.le_refl 0) dX7_judgeBar_44 ⟨(1 : Int32), rfl, h, hWS35, (wkExt.tr (wkExt.tr (wkExt.tr hE hXS23) hXS29) hXS35)⟩
      · rw [if_neg c39] at h
        refine wk_aload_n C dX7_judgeBar_28 rfl rfl ?_
        refine wk_iconst C (v := 0) dX7_judgeBar_29 (by decide) ?_
        refine wk_iconst C (v := 0) dX7_judgeBar_30 (by decide) ?_
        refine wk_aload_n C dX7_judgeBar_31 rfl rfl ?_
        refine wk_get C (v := .int (gNetworks_nodeCount S35 l0A)) huX7_judgeBar_7 (hXS35 _ _ (hXS29 _ _ (hXS23 _ _ hl0A))).1 (fun cy => wAt_7 cy _ (hXS35 _ _ (hXS29 _ _ (hXS23 _ _ hl0A))).2) rfl 8 (by decide) (List.mem_of_getElem? (i := 21) rfl) rfl rfl dX7_judgeBar_32 ?_
        refine wk_iconst C (v := 2) dX7_judgeBar_35 (by decide) ?_
        refine wk_isub C dX7_judgeBar_36 rfl ?_
        refine wk_callV C hR (As := [.int (0 : Int32), .int (0 : Int32), .int ((gNetworks_nodeCount S35 l0A) - (2 : Int32))]) (cnt := 3) (tX9_liesWithin (l := l) hWS35 (hXS35 _ _ (hXS29 _ _ (hXS23 _ _ hl2A))) h) rfl (wkGoodV (List.mem_of_getElem? (i := 22) rfl) (List.mem_of_getElem? (i := 23) rfl) (List.mem_of_getElem? (i := 24) rfl) (List.mem_of_getElem? (i := 7) rfl) hbX7_judgeBar_X9_liesWithin gdX9_liesWithin) (Nat.le_trans (by decide : 0 + 1 ≤ 2) hd) (by decide) (hXS35 _ _ (hXS29 _ _ (hXS23 _ _ hl2A))).1 (fun cy => wAt_9 cy _ (hXS35 _ _ (hXS29 _ _ (hXS23 _ _ hl2A))).2) rfl ⟨by decide, by decide, by decide +kernel⟩ rfl rfl (Nat.le_of_ble_eq_true rfl) (Nat.le_refl 0) (Nat.le_refl 0) dX7_judgeBar_37 (fun v' S41 hp => ?_)
        obtain ⟨v40, rfl, h, hWS41, hXS41⟩ := hp
        refine wk_if_ne C (tgt := 45) dX7_judgeBar_40 (by decide) (fun c45 => ?_) (fun c45 => ?_)
        · rw [if_neg c45] at h
          refine wk_iconst C (v := 0) dX7_judgeBar_45 (by decide) ?_
          refine wk_istore_n C (lv' := [some (.ref l0A), some (.ref l1A), some (.ref l2A), some (.int (0 : Int32)), none]) dX7_judgeBar_46 rfl (by decide) rfl ?_
          refine wk_iconst C (v := 0) dX7_judgeBar_47 (by decide) ?_
          refine wk_istore C (lv' := [some (.ref l0A), some (.ref l1A), some (.ref l2A), some (.int (0 : Int32)), some (.int (0 : Int32))]) dX7_judgeBar_48 (by decide) rfl ?_
          exact wk_forget (lv' := [some (.ref l0A), some (.ref l1A), some (.ref l2A), some (.int (0 : Int32)), some (.int (0 : Int32))]) (wkLs.le ⟨rfl, rfl, rfl, rfl, rfl, trivial⟩) (ih _ _ _ _ _ _ hWS41 (wkExt.tr (wkExt.tr (wkExt.tr (wkExt.tr hE hXS23) hXS29) hXS35) hXS41) (hXS41 _ _ (hXS35 _ _ (hXS29 _ _ (hXS23 _ _ hl0A)))) (hXS41 _ _ (hXS35 _ _ (hXS29 _ _ (hXS23 _ _ hl1A)))) (hXS41 _ _ (hXS35 _ _ (hXS29 _ _ (hXS23 _ _ hl2A)))) h)
        · rw [if_pos c45] at h
          refine wk_iconst C (v := 1) dX7_judgeBar_43 (by decide) ?_
          exact E _ _ _ _ _ _ (Nat.le_refl 0) (Nat.le_refl 0) dX7_judgeBar_44 ⟨(1 : Int32), rfl, h, hWS41, (wkExt.tr (wkExt.tr (wkExt.tr (wkExt.tr hE hXS23) hXS29) hXS35) hXS41)⟩
