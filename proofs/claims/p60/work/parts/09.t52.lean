def wvX2_loadEdges : List Cond := .code yX2_loadEdges cX2_loadEdges 5 none :: (([.fieldLink RX2 62 "Witnessworks$Drawings" "nodeCount" "I", .fieldLink RX2 16 "Witnessworks$Drawings" "firstPlace" "[I", .fieldLink RX2 46 "Witnessworks$Drawings" "places" "I", .fieldLink RX2 9 "Witnessworks$Drawings" "near" "[I", .methodLink RX2 100 yJ6_bitCount_0f7a4, .static yJ6_bitCount_0f7a4, .initialized RJ6, .fieldLink RX2 28 "Witnessworks$Drawings" "walksDue" "[I", .methodLink RX2 105 yX2_countWalksDue, .instanceMethod yX2_countWalksDue, .selects RX2 yX2_countWalksDue yX2_countWalksDue, .initialized RX2, .fieldLink RX2 19 "Witnessworks$Drawings" "owner" "[I", .methodLink RX2 88 yX3_fillNear, .instanceMethod yX3_fillNear, .selects RX3 yX3_fillNear yX3_fillNear, .initialized RX3, .fieldLink RX2 13 "Witnessworks$Drawings" "used" "[I", .methodLink RX2 92 yJ7_fill_53178, .static yJ7_fill_53178, .initialized RJ7, .fieldLink RX2 97 "Witnessworks$Entry" "size" "I"] : List Cond) ++ ((wsX20 ++ (wsX30)) ++ (wvJ6_bitCount_0f7a4 ++ (wvX2_countWalksDue ++ (wvX3_fillNear ++ (wvJ7_fill_53178))))))
theorem huX2_loadEdges_2 : ∀ w ∈ u_ws RX2 TX2 10, w ∈ wvX2_loadEdges := fun w h => List.mem_cons_of_mem _ (List.mem_append_right _ (List.mem_append_left _ (List.mem_append_left _ h)))
theorem huX2_loadEdges_3 : ∀ w ∈ u_ws RX3 TX3 17, w ∈ wvX2_loadEdges := fun w h => List.mem_cons_of_mem _ (List.mem_append_right _ (List.mem_append_left _ (List.mem_append_right _ h)))
theorem hbX2_loadEdges_J6_bitCount_0f7a4 : ∀ w ∈ wvJ6_bitCount_0f7a4, w ∈ wvX2_loadEdges := fun w h => List.mem_cons_of_mem _ (List.mem_append_right _ (List.mem_append_right _ (List.mem_append_left _ h)))
theorem hbX2_loadEdges_X2_countWalksDue : ∀ w ∈ wvX2_countWalksDue, w ∈ wvX2_loadEdges := fun w h => List.mem_cons_of_mem _ (List.mem_append_right _ (List.mem_append_right _ (List.mem_append_right _ (List.mem_append_left _ h))))
theorem hbX2_loadEdges_X3_fillNear : ∀ w ∈ wvX3_fillNear, w ∈ wvX2_loadEdges := fun w h => List.mem_cons_of_mem _ (List.mem_append_right _ (List.mem_append_right _ (List.mem_append_right _ (List.mem_append_right _ (List.mem_append_left _ h)))))
theorem hbX2_loadEdges_J7_fill_53178 : ∀ w ∈ wvJ7_fill_53178, w ∈ wvX2_loadEdges := fun w h => List.mem_cons_of_mem _ (List.mem_append_right _ (List.mem_append_right _ (List.mem_append_right _ (List.mem_append_right _ (List.mem_append_right _ h)))))
theorem gdX2_loadEdges : ∀ w ∈ wvX2_loadEdges, wkGd w := wkGdC rfl (wkGdA (wkGdL (by decide +kernel)) (wkGdA (wkGdA gdX2 gdX3) (wkGdA gdJ6_bitCount_0f7a4 (wkGdA gdX2_countWalksDue (wkGdA gdX3_fillNear gdJ7_fill_53178)))))
def rX2_loadEdges_b0 (F : Nat) (rec : Nat → Nat → Int32 → Int32 → wPS → (Unit → wPS → Prop) → Prop) (l0A : Nat) (l3I : Int32) (S : wPS) (Φ : (Unit → wPS → Prop)) : Prop :=
  if (gDrawings_nodeCount S l0A) ≤ l3I then (Φ () S) else (¬ (l3I < 0 ∨ S.len (wkAd (gDrawings_firstPlace S l0A)) ≤ (l3I).toNatClampNeg) ∧ wkLt (wuI S (wkAd (gDrawings_firstPlace S l0A)) l3I (gDrawings_places S l0A)) fun S3 => ¬ (l3I < 0 ∨ S3.len (wkAd (gDrawings_near S3 l0A)) ≤ (l3I).toNatClampNeg) ∧ rJ6_bitCount_0f7a4 F (S3.rI (wkAd (gDrawings_near S3 l0A)) (l3I).toNatClampNeg) S3 fun v5 S6 => rec 1 l0A l3I v5 S6 Φ)
def rX2_loadEdges_b1 (F : Nat) (rec : Nat → Nat → Int32 → Int32 → wPS → (Unit → wPS → Prop) → Prop) (l0A : Nat) (l3I : Int32) (l4I : Int32) (S : wPS) (Φ : (Unit → wPS → Prop)) : Prop :=
  if l4I ≤ 0 then (rX2_countWalksDue F l0A l3I S fun v11 S12 => ¬ (l3I < 0 ∨ S12.len (wkAd (gDrawings_walksDue S l0A)) ≤ (l3I).toNatClampNeg) ∧ wkLt (wuI S12 (wkAd (gDrawings_walksDue S l0A)) l3I v11) fun S17 => wkLt (l3I + (1 : Int32)) fun x18 => rec 0 l0A x18 0 S17 Φ) else (if (22 : Int32) ≤ (gDrawings_places S l0A) then (rX2_countWalksDue F l0A l3I S fun v20 S21 => ¬ (l3I < 0 ∨ S21.len (wkAd (gDrawings_walksDue S l0A)) ≤ (l3I).toNatClampNeg) ∧ wkLt (wuI S21 (wkAd (gDrawings_walksDue S l0A)) l3I v20) fun S26 => wkLt (l3I + (1 : Int32)) fun x27 => rec 0 l0A x27 0 S26 Φ) else (¬ ((gDrawings_places S l0A) < 0 ∨ S.len (wkAd (gDrawings_owner S l0A)) ≤ ((gDrawings_places S l0A)).toNatClampNeg) ∧ wkLt (wuI S (wkAd (gDrawings_owner S l0A)) (gDrawings_places S l0A) l3I) fun S29 => wkLt (wu_Drawings_places S29 l0A ((gDrawings_places S29 l0A) + (1 : Int32))) fun S30 => wkLt (l4I + (-1 : Int32)) fun x31 => rec 1 l0A l3I x31 S30 Φ))
def rX2_loadEdges_go (F : Nat) : Nat → Nat → Nat → Int32 → Int32 → wPS → (Unit → wPS → Prop) → Prop
  | 0, _, _, _, _, _, _ => False
  | k' + 1, lab, l0A, l3I, l4I, S, Φ => if lab = 0 then rX2_loadEdges_b0 F (rX2_loadEdges_go F k') l0A l3I S Φ else if lab = 1 then rX2_loadEdges_b1 F (rX2_loadEdges_go F k') l0A l3I l4I S Φ else False
def rX2_loadEdges_s (F : Nat) (rec : Nat → Nat → Int32 → Int32 → wPS → (Unit → wPS → Prop) → Prop) (l0A : Nat) (l1A : Nat) (l2I : Int32) (S : wPS) (Φ : (Unit → wPS → Prop)) : Prop :=
  rX3_fillNear F l1A (wkAd (gDrawings_near S l0A)) l2I S fun v32 S33 => rJ7_fill_53178 F (wkAd (gDrawings_used S33 l0A)) (0 : Int32) S33 fun v37 S38 => wkLt (wu_Drawings_nodeCount S38 l0A (gEntry_size S38 l1A)) fun S42 => wkLt (wu_Drawings_places S42 l0A (0 : Int32)) fun S43 => rec 0 l0A (0 : Int32) 0 S43 Φ
def rX2_loadEdges (F : Nat) (l0A : Nat) (l1A : Nat) (l2I : Int32) (S : wPS) (Φ : (Unit → wPS → Prop)) : Prop := rX2_loadEdges_s F (rX2_loadEdges_go F F) l0A l1A l2I S Φ
set_option maxHeartbeats 4000000 in
set_option maxRecDepth 100000 in
theorem tX2_loadEdges_go {l : Launch} {X : wkX} {d F : Nat} {S0 : wPS} {Φ : (Unit → wPS → Prop)} (C : wkC X cX2_loadEdges RX2 5 wvX2_loadEdges) (hR : wkRm X d 0 0) (hd : 2 ≤ d) (E : wkEnd l X cX2_loadEdges 5 none 0 0 (fun v' S'' => ∃ v : Unit, v' = none ∧ Φ v S'' ∧ wkWF S'' ∧ wkExt S0 S'')) : ∀ k' : Nat, (∀ (l0A : Nat) (l3I : Int32) (S : wPS), wkWF S → wkExt S0 S → wkIs S l0A 2 → rX2_loadEdges_go F k' 0 l0A l3I 0 S Φ → wkGo l X 5 0 0 32 S [some (.ref l0A), none, none, some (.int l3I), none] []) ∧ (∀ (l0A : Nat) (l3I : Int32) (l4I : Int32) (S : wPS), wkWF S → wkExt S0 S → wkIs S l0A 2 → rX2_loadEdges_go F k' 1 l0A l3I l4I S Φ → wkGo l X 5 0 0 61 S [some (.ref l0A), none, none, some (.int l3I), some (.int l4I)] []) := by
  intro k'
  induction k' with
  | zero => exact ⟨fun l0A l3I S hW hE hl0A h => h.elim, fun l0A l3I l4I S hW hE hl0A h => h.elim⟩
  | succ k' ih =>
    refine ⟨?_, ?_⟩
    · intro l0A l3I S hW hE hl0A h
      have h : rX2_loadEdges_b0 F (rX2_loadEdges_go F k') l0A l3I S Φ := by
        rw [rX2_loadEdges_go, if_pos (rfl : (0 : Nat) = 0)] at h
        exact h
      unfold rX2_loadEdges_b0 at h
      refine wk_iload_n C dX2_loadEdges_32 rfl rfl ?_
      refine wk_aload_n C dX2_loadEdges_33 rfl rfl ?_
      refine wk_get C (v := .int (gDrawings_nodeCount S l0A)) huX2_loadEdges_2 hl0A.1 (fun cy => wAt_2 cy _ hl0A.2) rfl 8 (by decide) (List.mem_of_getElem? (i := 1) rfl) rfl rfl dX2_loadEdges_34 ?_
      refine wk_icmp_ge C (tgt := 118) dX2_loadEdges_37 (by decide) (fun c1 => ?_) (fun c1 => ?_)
      · rw [if_pos c1] at h
        exact E _ _ _ _ _ (Nat.le_refl 0) (Nat.le_refl 0) dX2_loadEdges_118 ⟨(), rfl, h, hW, hE⟩
      · rw [if_neg c1] at h
        refine wk_aload_n C dX2_loadEdges_40 rfl rfl ?_
        refine wk_get C huX2_loadEdges_2 hl0A.1 (fun cy => wAt_2 cy _ hl0A.2) rfl 2 (by decide) (List.mem_of_getElem? (i := 2) rfl) rfl (congrArg some (congrArg va_rf (wf_Drawings_firstPlace hW hl0A).1)) dX2_loadEdges_41 ?_
        refine wk_iload_n C dX2_loadEdges_44 rfl rfl ?_
        refine wk_aload_n C dX2_loadEdges_45 rfl rfl ?_
        refine wk_get C (v := .int (gDrawings_places S l0A)) huX2_loadEdges_2 hl0A.1 (fun cy => wAt_2 cy _ hl0A.2) rfl 9 (by decide) (List.mem_of_getElem? (i := 3) rfl) rfl rfl dX2_loadEdges_46 ?_
        obtain ⟨i2, h⟩ := h
        obtain ⟨S3, eS3, h⟩ := wkLt_some h
        refine wk_iast C (wf_Drawings_firstPlace hW hl0A).2.1 (wf_Drawings_firstPlace hW hl0A).2.2 i2 eS3.symm dX2_loadEdges_49 ?_
        have hWS3 : wkWF S3 := by rw [eS3]; exact hW
        have hXS3 : wkExt S S3 := by rw [eS3]; exact wkExt.rf
        refine wk_aload_n C dX2_loadEdges_50 rfl rfl ?_
        refine wk_get C huX2_loadEdges_2 (hXS3 _ _ hl0A).1 (fun cy => wAt_2 cy _ (hXS3 _ _ hl0A).2) rfl 0 (by decide) (List.mem_of_getElem? (i := 4) rfl) rfl (congrArg some (congrArg va_rf (wf_Drawings_near hWS3 (hXS3 _ _ hl0A)).1)) dX2_loadEdges_51 ?_
        refine wk_iload_n C dX2_loadEdges_54 rfl rfl ?_
        obtain ⟨i4, h⟩ := h
        refine wk_iald C (wf_Drawings_near hWS3 (hXS3 _ _ hl0A)).2.1 (wf_Drawings_near hWS3 (hXS3 _ _ hl0A)).2.2 i4 rfl dX2_loadEdges_55 ?_
        refine wk_callW C hR (As := [.int (S3.rI (wkAd (gDrawings_near S3 l0A)) (l3I).toNatClampNeg)]) (cnt := 1) (tJ6_bitCount_0f7a4 (l := l) hWS3  h) rfl (wkGoodW (List.mem_of_getElem? (i := 5) rfl) (List.mem_of_getElem? (i := 6) rfl) (List.mem_of_getElem? (i := 7) rfl) hbX2_loadEdges_J6_bitCount_0f7a4 gdJ6_bitCount_0f7a4) (Nat.le_trans (by decide : 0 + 1 ≤ 2) hd) (by decide) ⟨by decide, by decide, by decide +kernel⟩ rfl rfl (Nat.le_of_ble_eq_true rfl) (Nat.le_refl 0) (Nat.le_refl 0) dX2_loadEdges_56 (fun v' S6 hp => ?_)
        obtain ⟨v5, rfl, h, hWS6, hXS6⟩ := hp
        refine wk_istore C (lv' := [some (.ref l0A), none, none, some (.int l3I), some (.int v5)]) dX2_loadEdges_59 (by decide) rfl ?_
        exact wk_forget (lv' := [some (.ref l0A), none, none, some (.int l3I), some (.int v5)]) (wkLs.le ⟨rfl, rfl, rfl, trivial⟩) (ih.2 _ _ _ _ hWS6 (wkExt.tr (wkExt.tr hE hXS3) hXS6) (hXS6 _ _ (hXS3 _ _ hl0A)) h)
    · intro l0A l3I l4I S hW hE hl0A h
      have h : rX2_loadEdges_b1 F (rX2_loadEdges_go F k') l0A l3I l4I S Φ := by
        rw [rX2_loadEdges_go, if_neg (show ¬ (1 : Nat) = 0 by decide), if_pos (rfl : (1 : Nat) = 1)] at h
        exact h
      unfold rX2_loadEdges_b1 at h
      refine wk_iload C dX2_loadEdges_61 rfl ?_
      refine wk_if_le C (tgt := 101) dX2_loadEdges_63 (by decide) (fun c10 => ?_) (fun c10 => ?_)
      · rw [if_pos c10] at h
        refine wk_aload_n C dX2_loadEdges_101 rfl rfl ?_
        refine wk_get C huX2_loadEdges_2 hl0A.1 (fun cy => wAt_2 cy _ hl0A.2) rfl 6 (by decide) (List.mem_of_getElem? (i := 8) rfl) rfl (congrArg some (congrArg va_rf (wf_Drawings_walksDue hW hl0A).1)) dX2_loadEdges_102 ?_
        refine wk_iload_n C dX2_loadEdges_105 rfl rfl ?_
        refine wk_aload_n C dX2_loadEdges_106 rfl rfl ?_
        refine wk_iload_n C dX2_loadEdges_107 rfl rfl ?_
        refine wk_callV C hR (As := [.int l3I]) (cnt := 1) (tX2_countWalksDue (l := l) hW hl0A h) rfl (wkGoodV (List.mem_of_getElem? (i := 9) rfl) (List.mem_of_getElem? (i := 10) rfl) (List.mem_of_getElem? (i := 11) rfl) (List.mem_of_getElem? (i := 12) rfl) hbX2_loadEdges_X2_countWalksDue gdX2_countWalksDue) (Nat.le_trans (by decide : 1 + 1 ≤ 2) hd) (by decide) hl0A.1 (fun cy => wAt_2 cy _ hl0A.2) rfl ⟨by decide, by decide, by decide +kernel⟩ rfl rfl (Nat.le_of_ble_eq_true rfl) (Nat.le_refl 0) (Nat.le_refl 0) dX2_loadEdges_108 (fun v' S12 hp => ?_)
        obtain ⟨v11, rfl, h, hWS12, hXS12⟩ := hp
        obtain ⟨i16, h⟩ := h
        obtain ⟨S17, eS17, h⟩ := wkLt_some h
        refine wk_iast C (hXS12 _ _ (wf_Drawings_walksDue hW hl0A).2).1 (hXS12 _ _ (wf_Drawings_walksDue hW hl0A).2).2 i16 eS17.symm dX2_loadEdges_111 ?_
        have hWS17 : wkWF S17 := by rw [eS17]; exact hWS12
        have hXS17 : wkExt S12 S17 := by rw [eS17]; exact wkExt.rf
        obtain ⟨x18, ex18, h⟩ := wkLt_some h
        refine wk_iinc C (lv' := [some (.ref l0A), none, none, some (.int x18), some (.int l4I)]) dX2_loadEdges_112 rfl (by rw [ex18]; rfl) (by decide) rfl ?_
        refine wk_goto C (tgt := 32) dX2_loadEdges_115 (by decide) ?_
        exact wk_forget (lv' := [some (.ref l0A), none, none, some (.int x18), none]) (wkLs.le ⟨rfl, rfl, trivial⟩) (ih.1 _ _ _ hWS17 (wkExt.tr (wkExt.tr hE hXS12) hXS17) (hXS17 _ _ (hXS12 _ _ hl0A)) h)
      · rw [if_neg c10] at h
        refine wk_aload_n C dX2_loadEdges_66 rfl rfl ?_
        refine wk_get C (v := .int (gDrawings_places S l0A)) huX2_loadEdges_2 hl0A.1 (fun cy => wAt_2 cy _ hl0A.2) rfl 9 (by decide) (List.mem_of_getElem? (i := 3) rfl) rfl rfl dX2_loadEdges_67 ?_
        refine wk_bipush C (v := 22) dX2_loadEdges_70 (by decide) ?_
        refine wk_icmp_ge C (tgt := 101) dX2_loadEdges_72 (by decide) (fun c19 => ?_) (fun c19 => ?_)
        · rw [if_pos c19] at h
          refine wk_aload_n C dX2_loadEdges_101 rfl rfl ?_
          refine wk_get C huX2_loadEdges_2 hl0A.1 (fun cy => wAt_2 cy _ hl0A.2) rfl 6 (by decide) (List.mem_of_getElem? (i := 8) rfl) rfl (congrArg some (congrArg va_rf (wf_Drawings_walksDue hW hl0A).1)) dX2_loadEdges_102 ?_
          refine wk_iload_n C dX2_loadEdges_105 rfl rfl ?_
          refine wk_aload_n C dX2_loadEdges_106 rfl rfl ?_
          refine wk_iload_n C dX2_loadEdges_107 rfl rfl ?_
          refine wk_callV C hR (As := [.int l3I]) (cnt := 1) (tX2_countWalksDue (l := l) hW hl0A h) rfl (wkGoodV (List.mem_of_getElem? (i := 9) rfl) (List.mem_of_getElem? (i := 10) rfl) (List.mem_of_getElem? (i := 11) rfl) (List.mem_of_getElem? (i := 12) rfl) hbX2_loadEdges_X2_countWalksDue gdX2_countWalksDue) (Nat.le_trans (by decide : 1 + 1 ≤ 2) hd) (by decide) hl0A.1 (fun cy => wAt_2 cy _ hl0A.2) rfl ⟨by decide, by decide, by decide +kernel⟩ rfl rfl (Nat.le_of_ble_eq_true rfl) (Nat.le_refl 0) (Nat.le_refl 0) dX2_loadEdges_108 (fun v' S21 hp => ?_)
          obtain ⟨v20, rfl, h, hWS21, hXS21⟩ := hp
          obtain ⟨i25, h⟩ := h
          obtain ⟨S26, eS26, h⟩ := wkLt_some h
          refine wk_iast C (hXS21 _ _ (wf_Drawings_walksDue hW hl0A).2).1 (hXS21 _ _ (wf_Drawings_walksDue hW hl0A).2).2 i25 eS26.symm dX2_loadEdges_111 ?_
          have hWS26 : wkWF S26 := by rw [eS26]; exact hWS21
          have hXS26 : wkExt S21 S26 := by rw [eS26]; exact wkExt.rf
          obtain ⟨x27, ex27, h⟩ := wkLt_some h
          refine wk_iinc C (lv' := [some (.ref l0A), none, none, some (.int x27), some (.int l4I)]) dX2_loadEdges_112 rfl (by rw [ex27]; rfl) (by decide) rfl ?_
          refine wk_goto C (tgt := 32) dX2_loadEdges_115 (by decide) ?_
          exact wk_forget (lv' := [some (.ref l0A), none, none, some (.int x27), none]) (wkLs.le ⟨rfl, rfl, trivial⟩) (ih.1 _ _ _ hWS26 (wkExt.tr (wkExt.tr hE hXS21) hXS26) (hXS26 _ _ (hXS21 _ _ hl0A)) h)
        · rw [if_neg c19] at h
          refine wk_aload_n C dX2_loadEdges_75 rfl rfl ?_
          refine wk_get C huX2_loadEdges_2 hl0A.1 (fun cy => wAt_2 cy _ hl0A.2) rfl 3 (by decide) (List.mem_of_getElem? (i := 13) rfl) rfl (congrArg some (congrArg va_rf (wf_Drawings_owner hW hl0A).1)) dX2_loadEdges_76 ?_
          refine wk_aload_n C dX2_loadEdges_79 rfl rfl ?_
          refine wk_get C (v := .int (gDrawings_places S l0A)) huX2_loadEdges_2 hl0A.1 (fun cy => wAt_2 cy _ hl0A.2) rfl 9 (by decide) (List.mem_of_getElem? (i := 3) rfl) rfl rfl dX2_loadEdges_80 ?_
          refine wk_iload_n C dX2_loadEdges_83 rfl rfl ?_
          obtain ⟨i28, h⟩ := h
          obtain ⟨S29, eS29, h⟩ := wkLt_some h
          refine wk_iast C (wf_Drawings_owner hW hl0A).2.1 (wf_Drawings_owner hW hl0A).2.2 i28 eS29.symm dX2_loadEdges_84 ?_
          have hWS29 : wkWF S29 := by rw [eS29]; exact hW
          have hXS29 : wkExt S S29 := by rw [eS29]; exact wkExt.rf
          refine wk_aload_n C dX2_loadEdges_85 rfl rfl ?_
          refine wk_dup C dX2_loadEdges_86 rfl ?_
          refine wk_get C (v := .int (gDrawings_places S29 l0A)) huX2_loadEdges_2 (hXS29 _ _ hl0A).1 (fun cy => wAt_2 cy _ (hXS29 _ _ hl0A).2) rfl 9 (by decide) (List.mem_of_getElem? (i := 3) rfl) rfl rfl dX2_loadEdges_87 ?_
          refine wk_iconst C (v := 1) dX2_loadEdges_90 (by decide) ?_
          refine wk_iadd C dX2_loadEdges_91 rfl ?_
          obtain ⟨S30, eS30, h⟩ := wkLt_some h
          refine wk_put C (S' := S30) huX2_loadEdges_2 (hXS29 _ _ hl0A).1 (fun cy => wAt_2 cy _ (hXS29 _ _ hl0A).2) rfl 9 (by decide) (List.mem_of_getElem? (i := 3) rfl) rfl tyX2_ok nmX2 rfl (ty := .int) rfl rfl rfl (by show 9 < 10; decide) (fun cy b => by rw [eS30]; exact wSt_2_9 cy _ (hXS29 _ _ hl0A).2 _ b) (by rw [eS30]) dX2_loadEdges_92 ?_
          have hWS30 : wkWF S30 := by rw [eS30]; exact hWS29
          have hXS30 : wkExt S29 S30 := by rw [eS30]; exact wkExt.rf
          obtain ⟨x31, ex31, h⟩ := wkLt_some h
          refine wk_iinc C (lv' := [some (.ref l0A), none, none, some (.int l3I), some (.int x31)]) dX2_loadEdges_95 rfl (by rw [ex31]; rfl) (by decide) rfl ?_
          refine wk_goto C (tgt := 61) dX2_loadEdges_98 (by decide) ?_
          exact wk_forget (lv' := [some (.ref l0A), none, none, some (.int l3I), some (.int x31)]) (wkLs.le ⟨rfl, rfl, rfl, trivial⟩) (ih.2 _ _ _ _ hWS30 (wkExt.tr (wkExt.tr hE hXS29) hXS30) (hXS30 _ _ (hXS29 _ _ hl0A)) h)
set_option maxHeartbeats 4000000 in
set_option maxRecDepth 100000 in
theorem tX2_loadEdges {l : Launch} {g : wkG} {F : Nat}  {S : wPS} {l0A : Nat} {l1A : Nat} {l2I : Int32} {Φ : (Unit → wPS → Prop)} (hW : wkWF S) (hl0A : wkIs S l0A 2) (hl1A : wkIs S l1A 3) (h : rX2_loadEdges F l0A l1A l2I S Φ) : wkMet l g yX2_loadEdges wvX2_loadEdges 2 0 0 [.ref l0A, .ref l1A, .int l2I] S (fun v' S'' => ∃ v : Unit, v' = none ∧ Φ v S'' ∧ wkWF S'' ∧ wkExt S S'') := by
  refine wkMet_of (ret := none) (by decide) rfl (Nat.le_of_ble_eq_true rfl) (fun X hg C hR E => ?_)
  subst hg
  have hE : wkExt S S := wkExt.rf
  have hd : 2 ≤ 2 := Nat.le_refl _
  show wkGo l X 5 0 0 0 S [some (.ref l0A), some (.ref l1A), some (.int l2I), none, none] []
  have ih := tX2_loadEdges_go (F := F) C hR hd E F
  have h : rX2_loadEdges_s F (rX2_loadEdges_go F F) l0A l1A l2I S Φ := h
  unfold rX2_loadEdges_s at h
  refine wk_aload_n C dX2_loadEdges_0 rfl rfl ?_
  refine wk_aload_n C dX2_loadEdges_1 rfl rfl ?_
  refine wk_get C huX2_loadEdges_2 hl0A.1 (fun cy => wAt_2 cy _ hl0A.2) rfl 0 (by decide) (List.mem_of_getElem? (i := 4) rfl) rfl (congrArg some (congrArg va_rf (wf_Drawings_near hW hl0A).1)) dX2_loadEdges_2 ?_
  refine wk_iload_n C dX2_loadEdges_5 rfl rfl ?_
  refine wk_callV C hR (As := [.ref (wkAd (gDrawings_near S l0A)), .int l2I]) (cnt := 2) (tX3_fillNear (l := l) hW hl1A (wf_Drawings_near hW hl0A).2 h) rfl (wkGoodV (List.mem_of_getElem? (i := 14) rfl) (List.mem_of_getElem? (i := 15) rfl) (List.mem_of_getElem? (i := 16) rfl) (List.mem_of_getElem? (i := 17) rfl) hbX2_loadEdges_X3_fillNear gdX3_fillNear) (Nat.le_trans (by decide : 1 + 1 ≤ 2) hd) (by decide) hl1A.1 (fun cy => wAt_3 cy _ hl1A.2) rfl ⟨by decide, by decide, by decide +kernel⟩ rfl rfl (Nat.le_of_ble_eq_true rfl) (Nat.le_refl 0) (Nat.le_refl 0) dX2_loadEdges_6 (fun v' S33 hp => ?_)
  obtain ⟨v32, rfl, h, hWS33, hXS33⟩ := hp
  refine wk_aload_n C dX2_loadEdges_9 rfl rfl ?_
  refine wk_get C huX2_loadEdges_2 (hXS33 _ _ hl0A).1 (fun cy => wAt_2 cy _ (hXS33 _ _ hl0A).2) rfl 1 (by decide) (List.mem_of_getElem? (i := 18) rfl) rfl (congrArg some (congrArg va_rf (wf_Drawings_used hWS33 (hXS33 _ _ hl0A)).1)) dX2_loadEdges_10 ?_
  refine wk_iconst C (v := 0) dX2_loadEdges_13 (by decide) ?_
  refine wk_callW C hR (As := [.ref (wkAd (gDrawings_used S33 l0A)), .int (0 : Int32)]) (cnt := 2) (tJ7_fill_53178 (l := l) hWS33 (wf_Drawings_used hWS33 (hXS33 _ _ hl0A)).2 h) rfl (wkGoodW (List.mem_of_getElem? (i := 19) rfl) (List.mem_of_getElem? (i := 20) rfl) (List.mem_of_getElem? (i := 21) rfl) hbX2_loadEdges_J7_fill_53178 gdJ7_fill_53178) (Nat.le_trans (by decide : 0 + 1 ≤ 2) hd) (by decide) ⟨by decide, by decide, by decide +kernel⟩ rfl rfl (Nat.le_of_ble_eq_true rfl) (Nat.le_refl 0) (Nat.le_refl 0) dX2_loadEdges_14 (fun v' S38 hp => ?_)
  obtain ⟨v37, rfl, h, hWS38, hXS38⟩ := hp
  refine wk_aload_n C dX2_loadEdges_17 rfl rfl ?_
  refine wk_aload_n C dX2_loadEdges_18 rfl rfl ?_
  refine wk_get C (v := .int (gEntry_size S38 l1A)) huX2_loadEdges_3 (hXS38 _ _ (hXS33 _ _ hl1A)).1 (fun cy => wAt_3 cy _ (hXS38 _ _ (hXS33 _ _ hl1A)).2) rfl 1 (by decide) (List.mem_of_getElem? (i := 22) rfl) rfl rfl dX2_loadEdges_19 ?_
  obtain ⟨S42, eS42, h⟩ := wkLt_some h
  refine wk_put C (S' := S42) huX2_loadEdges_2 (hXS38 _ _ (hXS33 _ _ hl0A)).1 (fun cy => wAt_2 cy _ (hXS38 _ _ (hXS33 _ _ hl0A)).2) rfl 8 (by decide) (List.mem_of_getElem? (i := 1) rfl) rfl tyX2_ok nmX2 rfl (ty := .int) rfl rfl rfl (by show 8 < 10; decide) (fun cy b => by rw [eS42]; exact wSt_2_8 cy _ (hXS38 _ _ (hXS33 _ _ hl0A)).2 _ b) (by rw [eS42]) dX2_loadEdges_22 ?_
  have hWS42 : wkWF S42 := by rw [eS42]; exact hWS38
  have hXS42 : wkExt S38 S42 := by rw [eS42]; exact wkExt.rf
  refine wk_aload_n C dX2_loadEdges_25 rfl rfl ?_
  refine wk_iconst C (v := 0) dX2_loadEdges_26 (by decide) ?_
  obtain ⟨S43, eS43, h⟩ := wkLt_some h
  refine wk_put C (S' := S43) huX2_loadEdges_2 (hXS42 _ _ (hXS38 _ _ (hXS33 _ _ hl0A))).1 (fun cy => wAt_2 cy _ (hXS42 _ _ (hXS38 _ _ (hXS33 _ _ hl0A))).2) rfl 9 (by decide) (List.mem_of_getElem? (i := 3) rfl) rfl tyX2_ok nmX2 rfl (ty := .int) rfl rfl rfl (by show 9 < 10; decide) (fun cy b => by rw [eS43]; exact wSt_2_9 cy _ (hXS42 _ _ (hXS38 _ _ (hXS33 _ _ hl0A))).2 _ b) (by rw [eS43]) dX2_loadEdges_27 ?_
  have hWS43 : wkWF S43 := by rw [eS43]; exact hWS42
  have hXS43 : wkExt S42 S43 := by rw [eS43]; exact wkExt.rf
  refine wk_iconst C (v := 0) dX2_loadEdges_30 (by decide) ?_
  refine wk_istore_n C (lv' := [some (.ref l0A), some (.ref l1A), some (.int l2I), some (.int (0 : Int32)), none]) dX2_loadEdges_31 rfl (by decide) rfl ?_
  exact wk_forget (lv' := [some (.ref l0A), none, none, some (.int (0 : Int32)), none]) (wkLs.le ⟨rfl, rfl, trivial⟩) (ih.1 _ _ _ hWS43 (wkExt.tr (wkExt.tr (wkExt.tr (wkExt.tr hE hXS33) hXS38) hXS42) hXS43) (hXS43 _ _ (hXS42 _ _ (hXS38 _ _ (hXS33 _ _ hl0A)))) h)
def wvX2_countWalks : List Cond := .code yX2_countWalks cX2_countWalks 7 (some .int) :: (([.fieldLink RX2 46 "Witnessworks$Drawings" "places" "I", .fieldLink RX2 19 "Witnessworks$Drawings" "owner" "[I", .fieldLink RX2 22 "Witnessworks$Drawings" "ring" "[I", .methodLink RX2 122 yX2_behind, .instanceMethod yX2_behind, .selects RX2 yX2_behind yX2_behind, .initialized RX2] : List Cond) ++ ((wsX20) ++ (wvX2_behind)))
theorem huX2_countWalks_2 : ∀ w ∈ u_ws RX2 TX2 10, w ∈ wvX2_countWalks := fun w h => List.mem_cons_of_mem _ (List.mem_append_right _ (List.mem_append_left _ h))
theorem hbX2_countWalks_X2_behind : ∀ w ∈ wvX2_behind, w ∈ wvX2_countWalks := fun w h => List.mem_cons_of_mem _ (List.mem_append_right _ (List.mem_append_right _ h))
theorem gdX2_countWalks : ∀ w ∈ wvX2_countWalks, wkGd w := wkGdC rfl (wkGdA (wkGdL (by decide +kernel)) (wkGdA gdX2 gdX2_behind))
def rX2_countWalks_b0 (F : Nat) (rec : Nat → Nat → Int32 → Int32 → Int32 → Int32 → Int32 → Int32 → wPS → (Int32 → wPS → Prop) → Prop) (l0A : Nat) (l1I : Int32) (l2I : Int32) (l3I : Int32) (l4I : Int32) (S : wPS) (Φ : (Int32 → wPS → Prop)) : Prop :=
  if (gDrawings_places S l0A) ≤ l4I then (Φ l3I S) else (¬ (l4I < 0 ∨ S.len (wkAd (gDrawings_owner S l0A)) ≤ (l4I).toNatClampNeg) ∧ if l1I < (S.rI (wkAd (gDrawings_owner S l0A)) (l4I).toNatClampNeg) then (Φ l3I S) else (¬ (l4I < 0 ∨ S.len (wkAd (gDrawings_ring S l0A)) ≤ (l4I).toNatClampNeg) ∧ if l1I < (S.rI (wkAd (gDrawings_ring S l0A)) (l4I).toNatClampNeg) then (wkLt (l4I + (1 : Int32)) fun x6 => rec 0 l0A l1I l2I l3I x6 0 0 S Φ) else (if ((l2I >>> (l4I &&& 31)) &&& (1 : Int32)) = 0 then (rec 1 l0A l1I l2I l3I l4I l4I (0 : Int32) S Φ) else (wkLt (l4I + (1 : Int32)) fun x8 => rec 0 l0A l1I l2I l3I x8 0 0 S Φ))))
def rX2_countWalks_b1 (F : Nat) (rec : Nat → Nat → Int32 → Int32 → Int32 → Int32 → Int32 → Int32 → wPS → (Int32 → wPS → Prop) → Prop) (l0A : Nat) (l1I : Int32) (l2I : Int32) (l3I : Int32) (l4I : Int32) (l5I : Int32) (l6I : Int32) (S : wPS) (Φ : (Int32 → wPS → Prop)) : Prop :=
  if (22 : Int32) ≤ l6I then (wkLt (l3I + (1 : Int32)) fun x10 => wkLt (l4I + (1 : Int32)) fun x11 => rec 0 l0A l1I l2I x10 x11 0 0 S Φ) else (if ((l2I >>> (l5I &&& 31)) &&& (1 : Int32)) = 0 then (wkLt ((l2I ||| ((1 : Int32) <<< (l5I &&& 31)))) fun x15 => rX2_behind F l0A l5I l1I S fun v16 S17 => wkLt (l6I + (1 : Int32)) fun x21 => rec 1 l0A l1I x15 l3I l4I v16 x21 S17 Φ) else (wkLt (l3I + (1 : Int32)) fun x13 => wkLt (l4I + (1 : Int32)) fun x14 => rec 0 l0A l1I l2I x13 x14 0 0 S Φ))
def rX2_countWalks_go (F : Nat) : Nat → Nat → Nat → Int32 → Int32 → Int32 → Int32 → Int32 → Int32 → wPS → (Int32 → wPS → Prop) → Prop
  | 0, _, _, _, _, _, _, _, _, _, _ => False
  | k' + 1, lab, l0A, l1I, l2I, l3I, l4I, l5I, l6I, S, Φ => if lab = 0 then rX2_countWalks_b0 F (rX2_countWalks_go F k') l0A l1I l2I l3I l4I S Φ else if lab = 1 then rX2_countWalks_b1 F (rX2_countWalks_go F k') l0A l1I l2I l3I l4I l5I l6I S Φ else False
def rX2_countWalks_s (F : Nat) (rec : Nat → Nat → Int32 → Int32 → Int32 → Int32 → Int32 → Int32 → wPS → (Int32 → wPS → Prop) → Prop) (l0A : Nat) (l1I : Int32) (S : wPS) (Φ : (Int32 → wPS → Prop)) : Prop :=
  rec 0 l0A l1I (0 : Int32) (0 : Int32) (0 : Int32) 0 0 S Φ
def rX2_countWalks (F : Nat) (l0A : Nat) (l1I : Int32) (S : wPS) (Φ : (Int32 → wPS → Prop)) : Prop := rX2_countWalks_s F (rX2_countWalks_go F F) l0A l1I S Φ
set_option maxHeartbeats 4000000 in
set_option maxRecDepth 100000 in
theorem tX2_countWalks_go {l : Launch} {X : wkX} {d F : Nat} {S0 : wPS} {Φ : (Int32 → wPS → Prop)} (C : wkC X cX2_countWalks RX2 7 wvX2_countWalks) (hR : wkRm X d 0 0) (hd : 2 ≤ d) (E : wkEnd l X cX2_countWalks 7 (some .int) 0 0 (fun v' S'' => ∃ v : Int32, v' = some (.int v) ∧ Φ v S'' ∧ wkWF S'' ∧ wkExt S0 S'')) : ∀ k' : Nat, (∀ (l0A : Nat) (l1I : Int32) (l2I : Int32) (l3I : Int32) (l4I : Int32) (S : wPS), wkWF S → wkExt S0 S → wkIs S l0A 2 → rX2_countWalks_go F k' 0 l0A l1I l2I l3I l4I 0 0 S Φ → wkGo l X 7 0 0 7 S [some (.ref l0A), some (.int l1I), some (.int l2I), some (.int l3I), some (.int l4I), none, none] []) ∧ (∀ (l0A : Nat) (l1I : Int32) (l2I : Int32) (l3I : Int32) (l4I : Int32) (l5I : Int32) (l6I : Int32) (S : wPS), wkWF S → wkExt S0 S → wkIs S l0A 2 → rX2_countWalks_go F k' 1 l0A l1I l2I l3I l4I l5I l6I S Φ → wkGo l X 7 0 0 54 S [some (.ref l0A), some (.int l1I), some (.int l2I), some (.int l3I), some (.int l4I), some (.int l5I), some (.int l6I)] []) := by
  intro k'
  induction k' with
  | zero => exact ⟨fun l0A l1I l2I l3I l4I S hW hE hl0A h => h.elim, fun l0A l1I l2I l3I l4I l5I l6I S hW hE hl0A h => h.elim⟩
  | succ k' ih =>
    refine ⟨?_, ?_⟩
    · intro l0A l1I l2I l3I l4I S hW hE hl0A h
      have h : rX2_countWalks_b0 F (rX2_countWalks_go F k') l0A l1I l2I l3I l4I S Φ := by
        rw [rX2_countWalks_go, if_pos (rfl : (0 : Nat) = 0)] at h
        exact h
      unfold rX2_countWalks_b0 at h
      refine wk_iload C dX2_countWalks_7 rfl ?_
      refine wk_aload_n C dX2_countWalks_9 rfl rfl ?_
      refine wk_get C (v := .int (gDrawings_places S l0A)) huX2_countWalks_2 hl0A.1 (fun cy => wAt_2 cy _ hl0A.2) rfl 9 (by decide) (List.mem_of_getElem? (i := 1) rfl) rfl rfl dX2_countWalks_10 ?_
      refine wk_icmp_ge C (tgt := 101) dX2_countWalks_13 (by decide) (fun c1 => ?_) (fun c1 => ?_)
      · rw [if_pos c1] at h
        refine wk_iload_n C dX2_countWalks_101 rfl rfl ?_
        exact E _ _ _ _ _ _ (Nat.le_refl 0) (Nat.le_refl 0) dX2_countWalks_102 ⟨l3I, rfl, h, hW, hE⟩
      · rw [if_neg c1] at h
        refine wk_aload_n C dX2_countWalks_16 rfl rfl ?_
        refine wk_get C huX2_countWalks_2 hl0A.1 (fun cy => wAt_2 cy _ hl0A.2) rfl 3 (by decide) (List.mem_of_getElem? (i := 2) rfl) rfl (congrArg some (congrArg va_rf (wf_Drawings_owner hW hl0A).1)) dX2_countWalks_17 ?_
        refine wk_iload C dX2_countWalks_20 rfl ?_
        obtain ⟨i2, h⟩ := h
        refine wk_iald C (wf_Drawings_owner hW hl0A).2.1 (wf_Drawings_owner hW hl0A).2.2 i2 rfl dX2_countWalks_22 ?_
        refine wk_iload_n C dX2_countWalks_23 rfl rfl ?_
        refine wk_icmp_gt C (tgt := 101) dX2_countWalks_24 (by decide) (fun c3 => ?_) (fun c3 => ?_)
        · rw [if_pos c3] at h
          refine wk_iload_n C dX2_countWalks_101 rfl rfl ?_
          exact E _ _ _ _ _ _ (Nat.le_refl 0) (Nat.le_refl 0) dX2_countWalks_102 ⟨l3I, rfl, h, hW, hE⟩
        · rw [if_neg c3] at h
          refine wk_aload_n C dX2_countWalks_27 rfl rfl ?_
          refine wk_get C huX2_countWalks_2 hl0A.1 (fun cy => wAt_2 cy _ hl0A.2) rfl 4 (by decide) (List.mem_of_getElem? (i := 3) rfl) rfl (congrArg some (congrArg va_rf (wf_Drawings_ring hW hl0A).1)) dX2_countWalks_28 ?_
          refine wk_iload C dX2_countWalks_31 rfl ?_
          obtain ⟨i4, h⟩ := h
          refine wk_iald C (wf_Drawings_ring hW hl0A).2.1 (wf_Drawings_ring hW hl0A).2.2 i4 rfl dX2_countWalks_33 ?_
          refine wk_iload_n C dX2_countWalks_34 rfl rfl ?_
          refine wk_icmp_gt C (tgt := 95) dX2_countWalks_35 (by decide) (fun c5 => ?_) (fun c5 => ?_)
          · rw [if_pos c5] at h
            obtain ⟨x6, ex6, h⟩ := wkLt_some h
            refine wk_iinc C (lv' := [some (.ref l0A), some (.int l1I), some (.int l2I), some (.int l3I), some (.int x6), none, none]) dX2_countWalks_95 rfl (by rw [ex6]; rfl) (by decide) rfl ?_
            refine wk_goto C (tgt := 7) dX2_countWalks_98 (by decide) ?_
            exact wk_forget (lv' := [some (.ref l0A), some (.int l1I), some (.int l2I), some (.int l3I), some (.int x6), none, none]) (wkLs.le ⟨rfl, rfl, rfl, rfl, rfl, trivial⟩) (ih.1 _ _ _ _ _ _ hW hE hl0A h)
          · rw [if_neg c5] at h
            refine wk_iload_n C dX2_countWalks_38 rfl rfl ?_
            refine wk_iload C dX2_countWalks_39 rfl ?_
            refine wk_ishr C dX2_countWalks_41 rfl ?_
            refine wk_iconst C (v := 1) dX2_countWalks_42 (by decide) ?_
            refine wk_iand C dX2_countWalks_43 rfl ?_
            refine wk_if_ne C (tgt := 95) dX2_countWalks_44 (by decide) (fun c7 => ?_) (fun c7 => ?_)
            · rw [if_neg c7] at h
              obtain ⟨x8, ex8, h⟩ := wkLt_some h
              refine wk_iinc C (lv' := [some (.ref l0A), some (.int l1I), some (.int l2I), some (.int l3I), some (.int x8), none, none]) dX2_countWalks_95 rfl (by rw [ex8]; rfl) (by decide) rfl ?_
              refine wk_goto C (tgt := 7) dX2_countWalks_98 (by decide) ?_
              exact wk_forget (lv' := [some (.ref l0A), some (.int l1I), some (.int l2I), some (.int l3I), some (.int x8), none, none]) (wkLs.le ⟨rfl, rfl, rfl, rfl, rfl, trivial⟩) (ih.1 _ _ _ _ _ _ hW hE hl0A h)
            · rw [if_pos c7] at h
              refine wk_iload C dX2_countWalks_47 rfl ?_
              refine wk_istore C (lv' := [some (.ref l0A), some (.int l1I), some (.int l2I), some (.int l3I), some (.int l4I), some (.int l4I), none]) dX2_countWalks_49 (by decide) rfl ?_
              refine wk_iconst C (v := 0) dX2_countWalks_51 (by decide) ?_
              refine wk_istore C (lv' := [some (.ref l0A), some (.int l1I), some (.int l2I), some (.int l3I), some (.int l4I), some (.int l4I), some (.int (0 : Int32))]) dX2_countWalks_52 (by decide) rfl ?_
              exact wk_forget (lv' := [some (.ref l0A), some (.int l1I), some (.int l2I), some (.int l3I), some (.int l4I), some (.int l4I), some (.int (0 : Int32))]) (wkLs.le ⟨rfl, rfl, rfl, rfl, rfl, rfl, rfl, trivial⟩) (ih.2 _ _ _ _ _ _ _ _ hW hE hl0A h)
    · intro l0A l1I l2I l3I l4I l5I l6I S hW hE hl0A h
      have h : rX2_countWalks_b1 F (rX2_countWalks_go F k') l0A l1I l2I l3I l4I l5I l6I S Φ := by
        rw [rX2_countWalks_go, if_neg (show ¬ (1 : Nat) = 0 by decide), if_pos (rfl : (1 : Nat) = 1)] at h
        exact h
      unfold rX2_countWalks_b1 at h
      refine wk_iload C dX2_countWalks_54 rfl ?_
      refine wk_bipush C (v := 22) dX2_countWalks_56 (by decide) ?_
      refine wk_icmp_ge C (tgt := 92) dX2_countWalks_58 (by decide) (fun c9 => ?_) (fun c9 => ?_)
      · rw [if_pos c9] at h
        obtain ⟨x10, ex10, h⟩ := wkLt_some h
        refine wk_iinc C (lv' := [some (.ref l0A), some (.int l1I), some (.int l2I), some (.int x10), some (.int l4I), some (.int l5I), some (.int l6I)]) dX2_countWalks_92 rfl (by rw [ex10]; rfl) (by decide) rfl ?_
        obtain ⟨x11, ex11, h⟩ := wkLt_some h
        refine wk_iinc C (lv' := [some (.ref l0A), some (.int l1I), some (.int l2I), some (.int x10), some (.int x11), some (.int l5I), some (.int l6I)]) dX2_countWalks_95 rfl (by rw [ex11]; rfl) (by decide) rfl ?_
        refine wk_goto C (tgt := 7) dX2_countWalks_98 (by decide) ?_
        exact wk_forget (lv' := [some (.ref l0A), some (.int l1I), some (.int l2I), some (.int x10), some (.int x11), none, none]) (wkLs.le ⟨rfl, rfl, rfl, rfl, rfl, trivial⟩) (ih.1 _ _ _ _ _ _ hW hE hl0A h)
      · rw [if_neg c9] at h
        refine wk_iload_n C dX2_countWalks_61 rfl rfl ?_
        refine wk_iload C dX2_countWalks_62 rfl ?_
        refine wk_ishr C dX2_countWalks_64 rfl ?_
        refine wk_iconst C (v := 1) dX2_countWalks_65 (by decide) ?_
        refine wk_iand C dX2_countWalks_66 rfl ?_
        refine wk_if_ne C (tgt := 92) dX2_countWalks_67 (by decide) (fun c12 => ?_) (fun c12 => ?_)
        · rw [if_neg c12] at h
          obtain ⟨x13, ex13, h⟩ := wkLt_some h
          refine wk_iinc C (lv' := [some (.ref l0A), some (.int l1I), some (.int l2I), some (.int x13), some (.int l4I), some (.int l5I), some (.int l6I)]) dX2_countWalks_92 rfl (by rw [ex13]; rfl) (by decide) rfl ?_
          obtain ⟨x14, ex14, h⟩ := wkLt_some h
          refine wk_iinc C (lv' := [some (.ref l0A), some (.int l1I), some (.int l2I), some (.int x13), some (.int x14), some (.int l5I), some (.int l6I)]) dX2_countWalks_95 rfl (by rw [ex14]; rfl) (by decide) rfl ?_
          refine wk_goto C (tgt := 7) dX2_countWalks_98 (by decide) ?_
          exact wk_forget (lv' := [some (.ref l0A), some (.int l1I), some (.int l2I), some (.int x13), some (.int x14), none, none]) (wkLs.le ⟨rfl, rfl, rfl, rfl, rfl, trivial⟩) (ih.1 _ _ _ _ _ _ hW hE hl0A h)
        · rw [if_pos c12] at h
          refine wk_iload_n C dX2_countWalks_70 rfl rfl ?_
          refine wk_iconst C (v := 1) dX2_countWalks_71 (by decide) ?_
          refine wk_iload C dX2_countWalks_72 rfl ?_
          refine wk_ishl C dX2_countWalks_74 rfl ?_
          refine wk_ior C dX2_countWalks_75 rfl ?_
          obtain ⟨x15, ex15, h⟩ := wkLt_some h
          refine wk_topi ex15 ?_
          refine wk_istore_n C (lv' := [some (.ref l0A), some (.int l1I), some (.int x15), some (.int l3I), some (.int l4I), some (.int l5I), some (.int l6I)]) dX2_countWalks_76 rfl (by decide) rfl ?_
          refine wk_aload_n C dX2_countWalks_77 rfl rfl ?_
          refine wk_iload C dX2_countWalks_78 rfl ?_
          refine wk_iload_n C dX2_countWalks_80 rfl rfl ?_
          refine wk_callV C hR (As := [.int l5I, .int l1I]) (cnt := 2) (tX2_behind (l := l) hW hl0A h) rfl (wkGoodV (List.mem_of_getElem? (i := 4) rfl) (List.mem_of_getElem? (i := 5) rfl) (List.mem_of_getElem? (i := 6) rfl) (List.mem_of_getElem? (i := 7) rfl) hbX2_countWalks_X2_behind gdX2_behind) (Nat.le_trans (by decide : 1 + 1 ≤ 2) hd) (by decide) hl0A.1 (fun cy => wAt_2 cy _ hl0A.2) rfl ⟨by decide, by decide, by decide +kernel⟩ rfl rfl (Nat.le_of_ble_eq_true rfl) (Nat.le_refl 0) (Nat.le_refl 0) dX2_countWalks_81 (fun v' S17 hp => ?_)
          obtain ⟨v16, rfl, h, hWS17, hXS17⟩ := hp
          refine wk_istore C (lv' := [some (.ref l0A), some (.int l1I), some (.int x15), some (.int l3I), some (.int l4I), some (.int v16), some (.int l6I)]) dX2_countWalks_84 (by decide) rfl ?_
          obtain ⟨x21, ex21, h⟩ := wkLt_some h
          refine wk_iinc C (lv' := [some (.ref l0A), some (.int l1I), some (.int x15), some (.int l3I), some (.int l4I), some (.int v16), some (.int x21)]) dX2_countWalks_86 rfl (by rw [ex21]; rfl) (by decide) rfl ?_
          refine wk_goto C (tgt := 54) dX2_countWalks_89 (by decide) ?_
          exact wk_forget (lv' := [some (.ref l0A), some (.int l1I), some (.int x15), some (.int l3I), some (.int l4I), some (.int v16), some (.int x21)]) (wkLs.le ⟨rfl, rfl, rfl, rfl, rfl, rfl, rfl, trivial⟩) (ih.2 _ _ _ _ _ _ _ _ hWS17 (wkExt.tr hE hXS17) (hXS17 _ _ hl0A) h)
set_option maxHeartbeats 4000000 in
set_option maxRecDepth 100000 in
theorem tX2_countWalks {l : Launch} {g : wkG} {F : Nat}  {S : wPS} {l0A : Nat} {l1I : Int32} {Φ : (Int32 → wPS → Prop)} (hW : wkWF S) (hl0A : wkIs S l0A 2) (h : rX2_countWalks F l0A l1I S Φ) : wkMet l g yX2_countWalks wvX2_countWalks 2 0 0 [.ref l0A, .int l1I] S (fun v' S'' => ∃ v : Int32, v' = some (.int v) ∧ Φ v S'' ∧ wkWF S'' ∧ wkExt S S'') := by
  refine wkMet_of (ret := (some .int)) (by decide) rfl (Nat.le_of_ble_eq_true rfl) (fun X hg C hR E => ?_)
  subst hg
  have hE : wkExt S S := wkExt.rf
  have hd : 2 ≤ 2 := Nat.le_refl _
  show wkGo l X 7 0 0 0 S [some (.ref l0A), some (.int l1I), none, none, none, none, none] []
  have ih := tX2_countWalks_go (F := F) C hR hd E F
  have h : rX2_countWalks_s F (rX2_countWalks_go F F) l0A l1I S Φ := h
  unfold rX2_countWalks_s at h
  refine wk_iconst C (v := 0) dX2_countWalks_0 (by decide) ?_
  refine wk_istore_n C (lv' := [some (.ref l0A), some (.int l1I), some (.int (0 : Int32)), none, none, none, none]) dX2_countWalks_1 rfl (by decide) rfl ?_
  refine wk_iconst C (v := 0) dX2_countWalks_2 (by decide) ?_
  refine wk_istore_n C (lv' := [some (.ref l0A), some (.int l1I), some (.int (0 : Int32)), some (.int (0 : Int32)), none, none, none]) dX2_countWalks_3 rfl (by decide) rfl ?_
  refine wk_iconst C (v := 0) dX2_countWalks_4 (by decide) ?_
  refine wk_istore C (lv' := [some (.ref l0A), some (.int l1I), some (.int (0 : Int32)), some (.int (0 : Int32)), some (.int (0 : Int32)), none, none]) dX2_countWalks_5 (by decide) rfl ?_
  exact wk_forget (lv' := [some (.ref l0A), some (.int l1I), some (.int (0 : Int32)), some (.int (0 : Int32)), some (.int (0 : Int32)), none, none]) (wkLs.le ⟨rfl, rfl, rfl, rfl, rfl, trivial⟩) (ih.1 _ _ _ _ _ _ hW hE hl0A h)
