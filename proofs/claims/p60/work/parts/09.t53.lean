def wvX2_judgeDrawing : List Cond := .code yX2_judgeDrawing cX2_judgeDrawing 6 (some .int) :: (([.fieldLink RX2 46 "Witnessworks$Drawings" "places" "I", .fieldLink RX2 62 "Witnessworks$Drawings" "nodeCount" "I", .methodLink RX2 65 yX2_countWalks, .instanceMethod yX2_countWalks, .selects RX2 yX2_countWalks yX2_countWalks, .initialized RX2, .fieldLink RX2 28 "Witnessworks$Drawings" "walksDue" "[I", .fieldLink RX2 19 "Witnessworks$Drawings" "owner" "[I", .methodLink RX2 128 yX9_at, .instanceMethod yX9_at, .selects RX9 yX9_at yX9_at, .initialized RX9, .fieldLink RX2 9 "Witnessworks$Drawings" "near" "[I", .fieldLink RX2 13 "Witnessworks$Drawings" "used" "[I", .static yX11_has, .initialized RX11, .fieldLink RX2 16 "Witnessworks$Drawings" "firstPlace" "[I", .methodLink RX2 118 yX2_setPlace, .instanceMethod yX2_setPlace, .selects RX2 yX2_setPlace yX2_setPlace, .static yX11_lowest, .methodLink RX2 34 yX2_countedItems, .static yX2_countedItems, .methodLink RX2 38 yX2_loadEdges, .instanceMethod yX2_loadEdges, .selects RX2 yX2_loadEdges yX2_loadEdges, .fieldLink RX2 131 "Witnessworks$Row" "count" "I"] : List Cond) ++ ((wsX20 ++ (wsX90)) ++ (wvX2_countWalks ++ (wvX9_at ++ (wvX11_has ++ (wvX2_setPlace ++ (wvX11_lowest ++ (wvX2_countedItems ++ (wvX2_loadEdges)))))))))
theorem huX2_judgeDrawing_2 : ∀ w ∈ u_ws RX2 TX2 10, w ∈ wvX2_judgeDrawing := fun w h => List.mem_cons_of_mem _ (List.mem_append_right _ (List.mem_append_left _ (List.mem_append_left _ h)))
theorem huX2_judgeDrawing_9 : ∀ w ∈ u_ws RX9 TX9 2, w ∈ wvX2_judgeDrawing := fun w h => List.mem_cons_of_mem _ (List.mem_append_right _ (List.mem_append_left _ (List.mem_append_right _ h)))
theorem hbX2_judgeDrawing_X2_countWalks : ∀ w ∈ wvX2_countWalks, w ∈ wvX2_judgeDrawing := fun w h => List.mem_cons_of_mem _ (List.mem_append_right _ (List.mem_append_right _ (List.mem_append_left _ h)))
theorem hbX2_judgeDrawing_X9_at : ∀ w ∈ wvX9_at, w ∈ wvX2_judgeDrawing := fun w h => List.mem_cons_of_mem _ (List.mem_append_right _ (List.mem_append_right _ (List.mem_append_right _ (List.mem_append_left _ h))))
theorem hbX2_judgeDrawing_X11_has : ∀ w ∈ wvX11_has, w ∈ wvX2_judgeDrawing := fun w h => List.mem_cons_of_mem _ (List.mem_append_right _ (List.mem_append_right _ (List.mem_append_right _ (List.mem_append_right _ (List.mem_append_left _ h)))))
theorem hbX2_judgeDrawing_X2_setPlace : ∀ w ∈ wvX2_setPlace, w ∈ wvX2_judgeDrawing := fun w h => List.mem_cons_of_mem _ (List.mem_append_right _ (List.mem_append_right _ (List.mem_append_right _ (List.mem_append_right _ (List.mem_append_right _ (List.mem_append_left _ h))))))
theorem hbX2_judgeDrawing_X11_lowest : ∀ w ∈ wvX11_lowest, w ∈ wvX2_judgeDrawing := fun w h => List.mem_cons_of_mem _ (List.mem_append_right _ (List.mem_append_right _ (List.mem_append_right _ (List.mem_append_right _ (List.mem_append_right _ (List.mem_append_right _ (List.mem_append_left _ h)))))))
theorem hbX2_judgeDrawing_X2_countedItems : ∀ w ∈ wvX2_countedItems, w ∈ wvX2_judgeDrawing := fun w h => List.mem_cons_of_mem _ (List.mem_append_right _ (List.mem_append_right _ (List.mem_append_right _ (List.mem_append_right _ (List.mem_append_right _ (List.mem_append_right _ (List.mem_append_right _ (List.mem_append_left _ h))))))))
theorem hbX2_judgeDrawing_X2_loadEdges : ∀ w ∈ wvX2_loadEdges, w ∈ wvX2_judgeDrawing := fun w h => List.mem_cons_of_mem _ (List.mem_append_right _ (List.mem_append_right _ (List.mem_append_right _ (List.mem_append_right _ (List.mem_append_right _ (List.mem_append_right _ (List.mem_append_right _ (List.mem_append_right _ h))))))))
theorem gdX2_judgeDrawing : ∀ w ∈ wvX2_judgeDrawing, wkGd w := wkGdC rfl (wkGdA (wkGdL (by decide +kernel)) (wkGdA (wkGdA gdX2 gdX9) (wkGdA gdX2_countWalks (wkGdA gdX9_at (wkGdA gdX11_has (wkGdA gdX2_setPlace (wkGdA gdX11_lowest (wkGdA gdX2_countedItems gdX2_loadEdges))))))))
def rX2_judgeDrawing_b0 (F : Nat) (rec : Nat → Nat → Nat → Int32 → wPS → (Int32 → wPS → Prop) → Prop) (l0A : Nat) (l2A : Nat) (l3I : Int32) (S : wPS) (Φ : (Int32 → wPS → Prop)) : Prop :=
  if (gDrawings_places S l0A) ≤ l3I then (rX2_countWalks F l0A ((gDrawings_nodeCount S l0A) - (1 : Int32)) S fun v2 S3 => ¬ (((gDrawings_nodeCount S3 l0A) - (1 : Int32)) < 0 ∨ S3.len (wkAd (gDrawings_walksDue S3 l0A)) ≤ (((gDrawings_nodeCount S3 l0A) - (1 : Int32))).toNatClampNeg) ∧ if v2 = (S3.rI (wkAd (gDrawings_walksDue S3 l0A)) (((gDrawings_nodeCount S3 l0A) - (1 : Int32))).toNatClampNeg) then (Φ (0 : Int32) S3) else (Φ (3 : Int32) S3)) else (¬ (l3I < 0 ∨ S.len (wkAd (gDrawings_owner S l0A)) ≤ (l3I).toNatClampNeg) ∧ wkLt ((S.rI (wkAd (gDrawings_owner S l0A)) (l3I).toNatClampNeg)) fun x10 => rX9_at F l2A l3I S fun v11 S12 => if v11 < 0 then (Φ (2 : Int32) S12) else (if (gDrawings_nodeCount S12 l0A) ≤ v11 then (Φ (2 : Int32) S12) else (¬ (x10 < 0 ∨ S12.len (wkAd (gDrawings_near S12 l0A)) ≤ (x10).toNatClampNeg) ∧ ¬ (x10 < 0 ∨ S12.len (wkAd (gDrawings_used S12 l0A)) ≤ (x10).toNatClampNeg) ∧ rX11_has F ((S12.rI (wkAd (gDrawings_near S12 l0A)) (x10).toNatClampNeg) &&& ((S12.rI (wkAd (gDrawings_used S12 l0A)) (x10).toNatClampNeg) ^^^ (-1 : Int32))) v11 S12 fun v20 S21 => if v20 = 0 then (Φ (2 : Int32) S21) else (¬ (x10 < 0 ∨ S21.len (wkAd (gDrawings_firstPlace S21 l0A)) ≤ (x10).toNatClampNeg) ∧ if l3I = (S21.rI (wkAd (gDrawings_firstPlace S21 l0A)) (x10).toNatClampNeg) then (¬ (x10 < 0 ∨ S21.len (wkAd (gDrawings_near S21 l0A)) ≤ (x10).toNatClampNeg) ∧ rX11_lowest F (S21.rI (wkAd (gDrawings_near S21 l0A)) (x10).toNatClampNeg) S21 fun v38 S39 => if v11 = v38 then (¬ (x10 < 0 ∨ S39.len (wkAd (gDrawings_used S39 l0A)) ≤ (x10).toNatClampNeg) ∧ ¬ (x10 < 0 ∨ S39.len (wkAd (gDrawings_used S39 l0A)) ≤ (x10).toNatClampNeg) ∧ wkLt (wuI S39 (wkAd (gDrawings_used S39 l0A)) x10 ((S39.rI (wkAd (gDrawings_used S39 l0A)) (x10).toNatClampNeg) ||| ((1 : Int32) <<< (v11 &&& 31)))) fun S46 => rX2_setPlace F l0A l3I v11 S46 fun v47 S48 => wkLt (l3I + (1 : Int32)) fun x52 => rec 0 l0A l2A x52 S48 Φ) else (Φ (2 : Int32) S39)) else (¬ (x10 < 0 ∨ S21.len (wkAd (gDrawings_used S21 l0A)) ≤ (x10).toNatClampNeg) ∧ ¬ (x10 < 0 ∨ S21.len (wkAd (gDrawings_used S21 l0A)) ≤ (x10).toNatClampNeg) ∧ wkLt (wuI S21 (wkAd (gDrawings_used S21 l0A)) x10 ((S21.rI (wkAd (gDrawings_used S21 l0A)) (x10).toNatClampNeg) ||| ((1 : Int32) <<< (v11 &&& 31)))) fun S30 => rX2_setPlace F l0A l3I v11 S30 fun v31 S32 => wkLt (l3I + (1 : Int32)) fun x36 => rec 0 l0A l2A x36 S32 Φ)))))
def rX2_judgeDrawing_go (F : Nat) : Nat → Nat → Nat → Nat → Int32 → wPS → (Int32 → wPS → Prop) → Prop
  | 0, _, _, _, _, _, _ => False
  | k' + 1, lab, l0A, l2A, l3I, S, Φ => if lab = 0 then rX2_judgeDrawing_b0 F (rX2_judgeDrawing_go F k') l0A l2A l3I S Φ else False
def rX2_judgeDrawing_s (F : Nat) (rec : Nat → Nat → Nat → Int32 → wPS → (Int32 → wPS → Prop) → Prop) (l0A : Nat) (l1A : Nat) (l2A : Nat) (S : wPS) (Φ : (Int32 → wPS → Prop)) : Prop :=
  rX2_countedItems F l1A S fun v53 S54 => rX2_loadEdges F l0A l1A v53 S54 fun v58 S59 => if (gRow_count S59 l2A) = (gDrawings_places S59 l0A) then (rec 0 l0A l2A (0 : Int32) S59 Φ) else (Φ (1 : Int32) S59)
def rX2_judgeDrawing (F : Nat) (l0A : Nat) (l1A : Nat) (l2A : Nat) (S : wPS) (Φ : (Int32 → wPS → Prop)) : Prop := rX2_judgeDrawing_s F (rX2_judgeDrawing_go F F) l0A l1A l2A S Φ
set_option maxHeartbeats 4000000 in
set_option maxRecDepth 100000 in
theorem tX2_judgeDrawing_go {l : Launch} {X : wkX} {d F : Nat} {S0 : wPS} {Φ : (Int32 → wPS → Prop)} (C : wkC X cX2_judgeDrawing RX2 6 wvX2_judgeDrawing) (hR : wkRm X d 0 0) (hd : 3 ≤ d) (E : wkEnd l X cX2_judgeDrawing 6 (some .int) 0 0 (fun v' S'' => ∃ v : Int32, v' = some (.int v) ∧ Φ v S'' ∧ wkWF S'' ∧ wkExt S0 S'')) : ∀ k' : Nat, (∀ (l0A : Nat) (l2A : Nat) (l3I : Int32) (S : wPS), wkWF S → wkExt S0 S → wkIs S l0A 2 → wkIs S l2A 9 → rX2_judgeDrawing_go F k' 0 l0A l2A l3I S Φ → wkGo l X 6 0 0 24 S [some (.ref l0A), none, some (.ref l2A), some (.int l3I), none, none] []) := by
  intro k'
  induction k' with
  | zero => exact fun l0A l2A l3I S hW hE hl0A hl2A h => h.elim
  | succ k' ih =>
    · intro l0A l2A l3I S hW hE hl0A hl2A h
      have h : rX2_judgeDrawing_b0 F (rX2_judgeDrawing_go F k') l0A l2A l3I S Φ := by
        rw [rX2_judgeDrawing_go, if_pos (rfl : (0 : Nat) = 0)] at h
        exact h
      unfold rX2_judgeDrawing_b0 at h
      refine wk_iload_n C dX2_judgeDrawing_24 rfl rfl ?_
      refine wk_aload_n C dX2_judgeDrawing_25 rfl rfl ?_
      refine wk_get C (v := .int (gDrawings_places S l0A)) huX2_judgeDrawing_2 hl0A.1 (fun cy => wAt_2 cy _ hl0A.2) rfl 9 (by decide) (List.mem_of_getElem? (i := 1) rfl) rfl rfl dX2_judgeDrawing_26 ?_
      refine wk_icmp_ge C (tgt := 143) dX2_judgeDrawing_29 (by decide) (fun c1 => ?_) (fun c1 => ?_)
      · rw [if_pos c1] at h
        refine wk_aload_n C dX2_judgeDrawing_143 rfl rfl ?_
        refine wk_aload_n C dX2_judgeDrawing_144 rfl rfl ?_
        refine wk_get C (v := .int (gDrawings_nodeCount S l0A)) huX2_judgeDrawing_2 hl0A.1 (fun cy => wAt_2 cy _ hl0A.2) rfl 8 (by decide) (List.mem_of_getElem? (i := 2) rfl) rfl rfl dX2_judgeDrawing_145 ?_
        refine wk_iconst C (v := 1) dX2_judgeDrawing_148 (by decide) ?_
        refine wk_isub C dX2_judgeDrawing_149 rfl ?_
        refine wk_callV C hR (As := [.int ((gDrawings_nodeCount S l0A) - (1 : Int32))]) (cnt := 1) (tX2_countWalks (l := l) hW hl0A h) rfl (wkGoodV (List.mem_of_getElem? (i := 3) rfl) (List.mem_of_getElem? (i := 4) rfl) (List.mem_of_getElem? (i := 5) rfl) (List.mem_of_getElem? (i := 6) rfl) hbX2_judgeDrawing_X2_countWalks gdX2_countWalks) (Nat.le_trans (by decide : 2 + 1 ≤ 3) hd) (by decide) hl0A.1 (fun cy => wAt_2 cy _ hl0A.2) rfl ⟨by decide, by decide, by decide +kernel⟩ rfl rfl (Nat.le_of_ble_eq_true rfl) (Nat.le_refl 0) (Nat.le_refl 0) dX2_judgeDrawing_150 (fun v' S3 hp => ?_)
        obtain ⟨v2, rfl, h, hWS3, hXS3⟩ := hp
        refine wk_aload_n C dX2_judgeDrawing_153 rfl rfl ?_
        refine wk_get C huX2_judgeDrawing_2 (hXS3 _ _ hl0A).1 (fun cy => wAt_2 cy _ (hXS3 _ _ hl0A).2) rfl 6 (by decide) (List.mem_of_getElem? (i := 7) rfl) rfl (congrArg some (congrArg va_rf (wf_Drawings_walksDue hWS3 (hXS3 _ _ hl0A)).1)) dX2_judgeDrawing_154 ?_
        refine wk_aload_n C dX2_judgeDrawing_157 rfl rfl ?_
        refine wk_get C (v := .int (gDrawings_nodeCount S3 l0A)) huX2_judgeDrawing_2 (hXS3 _ _ hl0A).1 (fun cy => wAt_2 cy _ (hXS3 _ _ hl0A).2) rfl 8 (by decide) (List.mem_of_getElem? (i := 2) rfl) rfl rfl dX2_judgeDrawing_158 ?_
        refine wk_iconst C (v := 1) dX2_judgeDrawing_161 (by decide) ?_
        refine wk_isub C dX2_judgeDrawing_162 rfl ?_
        obtain ⟨i7, h⟩ := h
        refine wk_iald C (wf_Drawings_walksDue hWS3 (hXS3 _ _ hl0A)).2.1 (wf_Drawings_walksDue hWS3 (hXS3 _ _ hl0A)).2.2 i7 rfl dX2_judgeDrawing_163 ?_
        refine wk_icmp_ne C (tgt := 171) dX2_judgeDrawing_164 (by decide) (fun c8 => ?_) (fun c8 => ?_)
        · rw [if_neg c8] at h
          refine wk_iconst C (v := 3) dX2_judgeDrawing_171 (by decide) ?_
          exact E _ _ _ _ _ _ (Nat.le_refl 0) (Nat.le_refl 0) dX2_judgeDrawing_172 ⟨(3 : Int32), rfl, h, hWS3, (wkExt.tr hE hXS3)⟩
        · rw [if_pos c8] at h
          refine wk_iconst C (v := 0) dX2_judgeDrawing_167 (by decide) ?_
          refine wk_goto C (tgt := 172) dX2_judgeDrawing_168 (by decide) ?_
          exact E _ _ _ _ _ _ (Nat.le_refl 0) (Nat.le_refl 0) dX2_judgeDrawing_172 ⟨(0 : Int32), rfl, h, hWS3, (wkExt.tr hE hXS3)⟩
      · rw [if_neg c1] at h
        refine wk_aload_n C dX2_judgeDrawing_32 rfl rfl ?_
        refine wk_get C huX2_judgeDrawing_2 hl0A.1 (fun cy => wAt_2 cy _ hl0A.2) rfl 3 (by decide) (List.mem_of_getElem? (i := 8) rfl) rfl (congrArg some (congrArg va_rf (wf_Drawings_owner hW hl0A).1)) dX2_judgeDrawing_33 ?_
        refine wk_iload_n C dX2_judgeDrawing_36 rfl rfl ?_
        obtain ⟨i9, h⟩ := h
        refine wk_iald C (wf_Drawings_owner hW hl0A).2.1 (wf_Drawings_owner hW hl0A).2.2 i9 rfl dX2_judgeDrawing_37 ?_
        obtain ⟨x10, ex10, h⟩ := wkLt_some h
        refine wk_topi ex10 ?_
        refine wk_istore C (lv' := [some (.ref l0A), none, some (.ref l2A), some (.int l3I), some (.int x10), none]) dX2_judgeDrawing_38 (by decide) rfl ?_
        refine wk_aload_n C dX2_judgeDrawing_40 rfl rfl ?_
        refine wk_iload_n C dX2_judgeDrawing_41 rfl rfl ?_
        refine wk_callV C hR (As := [.int l3I]) (cnt := 1) (tX9_at (l := l) hW hl2A h) rfl (wkGoodV (List.mem_of_getElem? (i := 9) rfl) (List.mem_of_getElem? (i := 10) rfl) (List.mem_of_getElem? (i := 11) rfl) (List.mem_of_getElem? (i := 12) rfl) hbX2_judgeDrawing_X9_at gdX9_at) (Nat.le_trans (by decide : 0 + 1 ≤ 3) hd) (by decide) hl2A.1 (fun cy => wAt_9 cy _ hl2A.2) rfl ⟨by decide, by decide, by decide +kernel⟩ rfl rfl (Nat.le_of_ble_eq_true rfl) (Nat.le_refl 0) (Nat.le_refl 0) dX2_judgeDrawing_42 (fun v' S12 hp => ?_)
        obtain ⟨v11, rfl, h, hWS12, hXS12⟩ := hp
        refine wk_istore C (lv' := [some (.ref l0A), none, some (.ref l2A), some (.int l3I), some (.int x10), some (.int v11)]) dX2_judgeDrawing_45 (by decide) rfl ?_
        refine wk_iload C dX2_judgeDrawing_47 rfl ?_
        refine wk_if_lt C (tgt := 86) dX2_judgeDrawing_49 (by decide) (fun c16 => ?_) (fun c16 => ?_)
        · rw [if_pos c16] at h
          refine wk_iconst C (v := 2) dX2_judgeDrawing_86 (by decide) ?_
          exact E _ _ _ _ _ _ (Nat.le_refl 0) (Nat.le_refl 0) dX2_judgeDrawing_87 ⟨(2 : Int32), rfl, h, hWS12, (wkExt.tr hE hXS12)⟩
        · rw [if_neg c16] at h
          refine wk_iload C dX2_judgeDrawing_52 rfl ?_
          refine wk_aload_n C dX2_judgeDrawing_54 rfl rfl ?_
          refine wk_get C (v := .int (gDrawings_nodeCount S12 l0A)) huX2_judgeDrawing_2 (hXS12 _ _ hl0A).1 (fun cy => wAt_2 cy _ (hXS12 _ _ hl0A).2) rfl 8 (by decide) (List.mem_of_getElem? (i := 2) rfl) rfl rfl dX2_judgeDrawing_55 ?_
          refine wk_icmp_ge C (tgt := 86) dX2_judgeDrawing_58 (by decide) (fun c17 => ?_) (fun c17 => ?_)
          · rw [if_pos c17] at h
            refine wk_iconst C (v := 2) dX2_judgeDrawing_86 (by decide) ?_
            exact E _ _ _ _ _ _ (Nat.le_refl 0) (Nat.le_refl 0) dX2_judgeDrawing_87 ⟨(2 : Int32), rfl, h, hWS12, (wkExt.tr hE hXS12)⟩
          · rw [if_neg c17] at h
            refine wk_aload_n C dX2_judgeDrawing_61 rfl rfl ?_
            refine wk_get C huX2_judgeDrawing_2 (hXS12 _ _ hl0A).1 (fun cy => wAt_2 cy _ (hXS12 _ _ hl0A).2) rfl 0 (by decide) (List.mem_of_getElem? (i := 13) rfl) rfl (congrArg some (congrArg va_rf (wf_Drawings_near hWS12 (hXS12 _ _ hl0A)).1)) dX2_judgeDrawing_62 ?_
            refine wk_iload C dX2_judgeDrawing_65 rfl ?_
            obtain ⟨i18, h⟩ := h
            refine wk_iald C (wf_Drawings_near hWS12 (hXS12 _ _ hl0A)).2.1 (wf_Drawings_near hWS12 (hXS12 _ _ hl0A)).2.2 i18 rfl dX2_judgeDrawing_67 ?_
            refine wk_aload_n C dX2_judgeDrawing_68 rfl rfl ?_
            refine wk_get C huX2_judgeDrawing_2 (hXS12 _ _ hl0A).1 (fun cy => wAt_2 cy _ (hXS12 _ _ hl0A).2) rfl 1 (by decide) (List.mem_of_getElem? (i := 14) rfl) rfl (congrArg some (congrArg va_rf (wf_Drawings_used hWS12 (hXS12 _ _ hl0A)).1)) dX2_judgeDrawing_69 ?_
            refine wk_iload C dX2_judgeDrawing_72 rfl ?_
            obtain ⟨i19, h⟩ := h
            refine wk_iald C (wf_Drawings_used hWS12 (hXS12 _ _ hl0A)).2.1 (wf_Drawings_used hWS12 (hXS12 _ _ hl0A)).2.2 i19 rfl dX2_judgeDrawing_74 ?_
            refine wk_iconst C (v := (-1)) dX2_judgeDrawing_75 (by decide) ?_
            refine wk_ixor C dX2_judgeDrawing_76 rfl ?_
            refine wk_iand C dX2_judgeDrawing_77 rfl ?_
            refine wk_iload C dX2_judgeDrawing_78 rfl ?_
            refine wk_callN C hR (y := yX11_has) (host := "Witnessworks") (As := [.int ((S12.rI (wkAd (gDrawings_near S12 l0A)) (x10).toNatClampNeg) &&& ((S12.rI (wkAd (gDrawings_used S12 l0A)) (x10).toNatClampNeg) ^^^ (-1 : Int32))), .int v11]) (cnt := 2) (tX11_has (l := l) hWS12  h) rfl (fun w h => ⟨hbX2_judgeDrawing_X11_has w h, gdX11_has w h⟩) (by decide +kernel) (List.mem_of_getElem? (i := 15) rfl) (List.mem_of_getElem? (i := 16) rfl) (Nat.le_trans (by decide : 0 + 1 ≤ 3) hd) (by decide) ⟨by decide, by decide, by decide +kernel⟩ rfl rfl (Nat.le_of_ble_eq_true rfl) (Nat.le_refl 0) (Nat.le_refl 0) dX2_judgeDrawing_80 (fun v' S21 hp => ?_)
            obtain ⟨v20, rfl, h, hWS21, hXS21⟩ := hp
            refine wk_if_ne C (tgt := 88) dX2_judgeDrawing_83 (by decide) (fun c25 => ?_) (fun c25 => ?_)
            · rw [if_neg c25] at h
              refine wk_iload_n C dX2_judgeDrawing_88 rfl rfl ?_
              refine wk_aload_n C dX2_judgeDrawing_89 rfl rfl ?_
              refine wk_get C huX2_judgeDrawing_2 (hXS21 _ _ (hXS12 _ _ hl0A)).1 (fun cy => wAt_2 cy _ (hXS21 _ _ (hXS12 _ _ hl0A)).2) rfl 2 (by decide) (List.mem_of_getElem? (i := 17) rfl) rfl (congrArg some (congrArg va_rf (wf_Drawings_firstPlace hWS21 (hXS21 _ _ (hXS12 _ _ hl0A))).1)) dX2_judgeDrawing_90 ?_
              refine wk_iload C dX2_judgeDrawing_93 rfl ?_
              obtain ⟨i26, h⟩ := h
              refine wk_iald C (wf_Drawings_firstPlace hWS21 (hXS21 _ _ (hXS12 _ _ hl0A))).2.1 (wf_Drawings_firstPlace hWS21 (hXS21 _ _ (hXS12 _ _ hl0A))).2.2 i26 rfl dX2_judgeDrawing_95 ?_
              refine wk_icmp_ne C (tgt := 116) dX2_judgeDrawing_96 (by decide) (fun c27 => ?_) (fun c27 => ?_)
              · rw [if_neg c27] at h
                refine wk_aload_n C dX2_judgeDrawing_116 rfl rfl ?_
                refine wk_get C huX2_judgeDrawing_2 (hXS21 _ _ (hXS12 _ _ hl0A)).1 (fun cy => wAt_2 cy _ (hXS21 _ _ (hXS12 _ _ hl0A)).2) rfl 1 (by decide) (List.mem_of_getElem? (i := 14) rfl) rfl (congrArg some (congrArg va_rf (wf_Drawings_used hWS21 (hXS21 _ _ (hXS12 _ _ hl0A))).1)) dX2_judgeDrawing_117 ?_
                refine wk_iload C dX2_judgeDrawing_120 rfl ?_
                refine wk_dup2 C dX2_judgeDrawing_122 rfl rfl ?_
                obtain ⟨i28, h⟩ := h
                refine wk_iald C (wf_Drawings_used hWS21 (hXS21 _ _ (hXS12 _ _ hl0A))).2.1 (wf_Drawings_used hWS21 (hXS21 _ _ (hXS12 _ _ hl0A))).2.2 i28 rfl dX2_judgeDrawing_123 ?_
                refine wk_iconst C (v := 1) dX2_judgeDrawing_124 (by decide) ?_
                refine wk_iload C dX2_judgeDrawing_125 rfl ?_
                refine wk_ishl C dX2_judgeDrawing_127 rfl ?_
                refine wk_ior C dX2_judgeDrawing_128 rfl ?_
                obtain ⟨i29, h⟩ := h
                obtain ⟨S30, eS30, h⟩ := wkLt_some h
                refine wk_iast C (wf_Drawings_used hWS21 (hXS21 _ _ (hXS12 _ _ hl0A))).2.1 (wf_Drawings_used hWS21 (hXS21 _ _ (hXS12 _ _ hl0A))).2.2 i29 eS30.symm dX2_judgeDrawing_129 ?_
                have hWS30 : wkWF S30 := by rw [eS30]; exact hWS21
                have hXS30 : wkExt S21 S30 := by rw [eS30]; exact wkExt.rf
                refine wk_aload_n C dX2_judgeDrawing_130 rfl rfl ?_
                refine wk_iload_n C dX2_judgeDrawing_131 rfl rfl ?_
                refine wk_iload C dX2_judgeDrawing_132 rfl ?_
                refine wk_callV C hR (As := [.int l3I, .int v11]) (cnt := 2) (tX2_setPlace (l := l) hWS30 (hXS30 _ _ (hXS21 _ _ (hXS12 _ _ hl0A))) h) rfl (wkGoodV (List.mem_of_getElem? (i := 18) rfl) (List.mem_of_getElem? (i := 19) rfl) (List.mem_of_getElem? (i := 20) rfl) (List.mem_of_getElem? (i := 6) rfl) hbX2_judgeDrawing_X2_setPlace gdX2_setPlace) (Nat.le_trans (by decide : 0 + 1 ≤ 3) hd) (by decide) (hXS30 _ _ (hXS21 _ _ (hXS12 _ _ hl0A))).1 (fun cy => wAt_2 cy _ (hXS30 _ _ (hXS21 _ _ (hXS12 _ _ hl0A))).2) rfl ⟨by decide, by decide, by decide +kernel⟩ rfl rfl (Nat.le_of_ble_eq_true rfl) (Nat.le_refl 0) (Nat.le_refl 0) dX2_judgeDrawing_134 (fun v' S32 hp => ?_)
                obtain ⟨v31, rfl, h, hWS32, hXS32⟩ := hp
                obtain ⟨x36, ex36, h⟩ := wkLt_some h
                refine wk_iinc C (lv' := [some (.ref l0A), none, some (.ref l2A), some (.int x36), some (.int x10), some (.int v11)]) dX2_judgeDrawing_137 rfl (by rw [ex36]; rfl) (by decide) rfl ?_
                refine wk_goto C (tgt := 24) dX2_judgeDrawing_140 (by decide) ?_
                exact wk_forget (lv' := [some (.ref l0A), none, some (.ref l2A), some (.int x36), none, none]) (wkLs.le ⟨rfl, rfl, rfl, trivial⟩) (ih _ _ _ _ hWS32 (wkExt.tr (wkExt.tr (wkExt.tr (wkExt.tr hE hXS12) hXS21) hXS30) hXS32) (hXS32 _ _ (hXS30 _ _ (hXS21 _ _ (hXS12 _ _ hl0A)))) (hXS32 _ _ (hXS30 _ _ (hXS21 _ _ (hXS12 _ _ hl2A)))) h)
              · rw [if_pos c27] at h
                refine wk_iload C dX2_judgeDrawing_99 rfl ?_
                refine wk_aload_n C dX2_judgeDrawing_101 rfl rfl ?_
                refine wk_get C huX2_judgeDrawing_2 (hXS21 _ _ (hXS12 _ _ hl0A)).1 (fun cy => wAt_2 cy _ (hXS21 _ _ (hXS12 _ _ hl0A)).2) rfl 0 (by decide) (List.mem_of_getElem? (i := 13) rfl) rfl (congrArg some (congrArg va_rf (wf_Drawings_near hWS21 (hXS21 _ _ (hXS12 _ _ hl0A))).1)) dX2_judgeDrawing_102 ?_
                refine wk_iload C dX2_judgeDrawing_105 rfl ?_
                obtain ⟨i37, h⟩ := h
                refine wk_iald C (wf_Drawings_near hWS21 (hXS21 _ _ (hXS12 _ _ hl0A))).2.1 (wf_Drawings_near hWS21 (hXS21 _ _ (hXS12 _ _ hl0A))).2.2 i37 rfl dX2_judgeDrawing_107 ?_
                refine wk_callN C hR (y := yX11_lowest) (host := "Witnessworks") (As := [.int (S21.rI (wkAd (gDrawings_near S21 l0A)) (x10).toNatClampNeg)]) (cnt := 1) (tX11_lowest (l := l) hWS21  h) rfl (fun w h => ⟨hbX2_judgeDrawing_X11_lowest w h, gdX11_lowest w h⟩) (by decide +kernel) (List.mem_of_getElem? (i := 21) rfl) (List.mem_of_getElem? (i := 16) rfl) (Nat.le_trans (by decide : 1 + 1 ≤ 3) hd) (by decide) ⟨by decide, by decide, by decide +kernel⟩ rfl rfl (Nat.le_of_ble_eq_true rfl) (Nat.le_refl 0) (Nat.le_refl 0) dX2_judgeDrawing_108 (fun v' S39 hp => ?_)
                obtain ⟨v38, rfl, h, hWS39, hXS39⟩ := hp
                refine wk_icmp_eq C (tgt := 116) dX2_judgeDrawing_111 (by decide) (fun c43 => ?_) (fun c43 => ?_)
                · rw [if_pos c43] at h
                  refine wk_aload_n C dX2_judgeDrawing_116 rfl rfl ?_
                  refine wk_get C huX2_judgeDrawing_2 (hXS39 _ _ (hXS21 _ _ (hXS12 _ _ hl0A))).1 (fun cy => wAt_2 cy _ (hXS39 _ _ (hXS21 _ _ (hXS12 _ _ hl0A))).2) rfl 1 (by decide) (List.mem_of_getElem? (i := 14) rfl) rfl (congrArg some (congrArg va_rf (wf_Drawings_used hWS39 (hXS39 _ _ (hXS21 _ _ (hXS12 _ _ hl0A)))).1)) dX2_judgeDrawing_117 ?_
                  refine wk_iload C dX2_judgeDrawing_120 rfl ?_
                  refine wk_dup2 C dX2_judgeDrawing_122 rfl rfl ?_
                  obtain ⟨i44, h⟩ := h
                  refine wk_iald C (wf_Drawings_used hWS39 (hXS39 _ _ (hXS21 _ _ (hXS12 _ _ hl0A)))).2.1 (wf_Drawings_used hWS39 (hXS39 _ _ (hXS21 _ _ (hXS12 _ _ hl0A)))).2.2 i44 rfl dX2_judgeDrawing_123 ?_
                  refine wk_iconst C (v := 1) dX2_judgeDrawing_124 (by decide) ?_
                  refine wk_iload C dX2_judgeDrawing_125 rfl ?_
                  refine wk_ishl C dX2_judgeDrawing_127 rfl ?_
                  refine wk_ior C dX2_judgeDrawing_128 rfl ?_
                  obtain ⟨i45, h⟩ := h
                  obtain ⟨S46, eS46, h⟩ := wkLt_some h
                  refine wk_iast C (wf_Drawings_used hWS39 (hXS39 _ _ (hXS21 _ _ (hXS12 _ _ hl0A)))).2.1 (wf_Drawings_used hWS39 (hXS39 _ _ (hXS21 _ _ (hXS12 _ _ hl0A)))).2.2 i45 eS46.symm dX2_judgeDrawing_129 ?_
                  have hWS46 : wkWF S46 := by rw [eS46]; exact hWS39
                  have hXS46 : wkExt S39 S46 := by rw [eS46]; exact wkExt.rf
                  refine wk_aload_n C dX2_judgeDrawing_130 rfl rfl ?_
                  refine wk_iload_n C dX2_judgeDrawing_131 rfl rfl ?_
                  refine wk_iload C dX2_judgeDrawing_132 rfl ?_
                  refine wk_callV C hR (As := [.int l3I, .int v11]) (cnt := 2) (tX2_setPlace (l := l) hWS46 (hXS46 _ _ (hXS39 _ _ (hXS21 _ _ (hXS12 _ _ hl0A)))) h) rfl (wkGoodV (List.mem_of_getElem? (i := 18) rfl) (List.mem_of_getElem? (i := 19) rfl) (List.mem_of_getElem? (i := 20) rfl) (List.mem_of_getElem? (i := 6) rfl) hbX2_judgeDrawing_X2_setPlace gdX2_setPlace) (Nat.le_trans (by decide : 0 + 1 ≤ 3) hd) (by decide) (hXS46 _ _ (hXS39 _ _ (hXS21 _ _ (hXS12 _ _ hl0A)))).1 (fun cy => wAt_2 cy _ (hXS46 _ _ (hXS39 _ _ (hXS21 _ _ (hXS12 _ _ hl0A)))).2) rfl ⟨by decide, by decide, by decide +kernel⟩ rfl rfl (Nat.le_of_ble_eq_true rfl) (Nat.le_refl 0) (Nat.le_refl 0) dX2_judgeDrawing_134 (fun v' S48 hp => ?_)
                  obtain ⟨v47, rfl, h, hWS48, hXS48⟩ := hp
                  obtain ⟨x52, ex52, h⟩ := wkLt_some h
                  refine wk_iinc C (lv' := [some (.ref l0A), none, some (.ref l2A), some (.int x52), some (.int x10), some (.int v11)]) dX2_judgeDrawing_137 rfl (by rw [ex52]; rfl) (by decide) rfl ?_
                  refine wk_goto C (tgt := 24) dX2_judgeDrawing_140 (by decide) ?_
                  exact wk_forget (lv' := [some (.ref l0A), none, some (.ref l2A), some (.int x52), none, none]) (wkLs.le ⟨rfl, rfl, rfl, trivial⟩) (ih _ _ _ _ hWS48 (wkExt.tr (wkExt.tr (wkExt.tr (wkExt.tr (wkExt.tr hE hXS12) hXS21) hXS39) hXS46) hXS48) (hXS48 _ _ (hXS46 _ _ (hXS39 _ _ (hXS21 _ _ (hXS12 _ _ hl0A))))) (hXS48 _ _ (hXS46 _ _ (hXS39 _ _ (hXS21 _ _ (hXS12 _ _ hl2A))))) h)
                · rw [if_neg c43] at h
                  refine wk_iconst C (v := 2) dX2_judgeDrawing_114 (by decide) ?_
                  exact E _ _ _ _ _ _ (Nat.le_refl 0) (Nat.le_refl 0) dX2_judgeDrawing_115 ⟨(2 : Int32), rfl, h, hWS39, (wkExt.tr (wkExt.tr (wkExt.tr hE hXS12) hXS21) hXS39)⟩
            · rw [if_pos c25] at h
              refine wk_iconst C (v := 2) dX2_judgeDrawing_86 (by decide) ?_
              exact E _ _ _ _ _ _ (Nat.le_refl 0) (Nat.le_refl 0) dX2_judgeDrawing_87 ⟨(2 : Int32), rfl, h, hWS21, (wkExt.tr (wkExt.tr hE hXS12) hXS21)⟩
set_option maxHeartbeats 4000000 in
set_option maxRecDepth 100000 in
theorem tX2_judgeDrawing {l : Launch} {g : wkG} {F : Nat}  {S : wPS} {l0A : Nat} {l1A : Nat} {l2A : Nat} {Φ : (Int32 → wPS → Prop)} (hW : wkWF S) (hl0A : wkIs S l0A 2) (hl1A : wkIs S l1A 3) (hl2A : wkIs S l2A 9) (h : rX2_judgeDrawing F l0A l1A l2A S Φ) : wkMet l g yX2_judgeDrawing wvX2_judgeDrawing 3 0 0 [.ref l0A, .ref l1A, .ref l2A] S (fun v' S'' => ∃ v : Int32, v' = some (.int v) ∧ Φ v S'' ∧ wkWF S'' ∧ wkExt S S'') := by
  refine wkMet_of (ret := (some .int)) (by decide) rfl (Nat.le_of_ble_eq_true rfl) (fun X hg C hR E => ?_)
  subst hg
  have hE : wkExt S S := wkExt.rf
  have hd : 3 ≤ 3 := Nat.le_refl _
  show wkGo l X 6 0 0 0 S [some (.ref l0A), some (.ref l1A), some (.ref l2A), none, none, none] []
  have ih := tX2_judgeDrawing_go (F := F) C hR hd E F
  have h : rX2_judgeDrawing_s F (rX2_judgeDrawing_go F F) l0A l1A l2A S Φ := h
  unfold rX2_judgeDrawing_s at h
  refine wk_aload_n C dX2_judgeDrawing_0 rfl rfl ?_
  refine wk_aload_n C dX2_judgeDrawing_1 rfl rfl ?_
  refine wk_aload_n C dX2_judgeDrawing_2 rfl rfl ?_
  refine wk_callW C hR (As := [.ref l1A]) (cnt := 1) (tX2_countedItems (l := l) hW hl1A h) rfl (wkGoodW (List.mem_of_getElem? (i := 22) rfl) (List.mem_of_getElem? (i := 23) rfl) (List.mem_of_getElem? (i := 6) rfl) hbX2_judgeDrawing_X2_countedItems gdX2_countedItems) (Nat.le_trans (by decide : 1 + 1 ≤ 3) hd) (by decide) ⟨by decide, by decide, by decide +kernel⟩ rfl rfl (Nat.le_of_ble_eq_true rfl) (Nat.le_refl 0) (Nat.le_refl 0) dX2_judgeDrawing_3 (fun v' S54 hp => ?_)
  obtain ⟨v53, rfl, h, hWS54, hXS54⟩ := hp
  refine wk_callV C hR (As := [.ref l1A, .int v53]) (cnt := 2) (tX2_loadEdges (l := l) hWS54 (hXS54 _ _ hl0A) (hXS54 _ _ hl1A) h) rfl (wkGoodV (List.mem_of_getElem? (i := 24) rfl) (List.mem_of_getElem? (i := 25) rfl) (List.mem_of_getElem? (i := 26) rfl) (List.mem_of_getElem? (i := 6) rfl) hbX2_judgeDrawing_X2_loadEdges gdX2_loadEdges) (Nat.le_trans (by decide : 2 + 1 ≤ 3) hd) (by decide) (hXS54 _ _ hl0A).1 (fun cy => wAt_2 cy _ (hXS54 _ _ hl0A).2) rfl ⟨by decide, by decide, by decide +kernel⟩ rfl rfl (Nat.le_of_ble_eq_true rfl) (Nat.le_refl 0) (Nat.le_refl 0) dX2_judgeDrawing_6 (fun v' S59 hp => ?_)
  obtain ⟨v58, rfl, h, hWS59, hXS59⟩ := hp
  refine wk_aload_n C dX2_judgeDrawing_9 rfl rfl ?_
  refine wk_get C (v := .int (gRow_count S59 l2A)) huX2_judgeDrawing_9 (hXS59 _ _ (hXS54 _ _ hl2A)).1 (fun cy => wAt_9 cy _ (hXS59 _ _ (hXS54 _ _ hl2A)).2) rfl 1 (by decide) (List.mem_of_getElem? (i := 27) rfl) rfl rfl dX2_judgeDrawing_10 ?_
  refine wk_aload_n C dX2_judgeDrawing_13 rfl rfl ?_
  refine wk_get C (v := .int (gDrawings_places S59 l0A)) huX2_judgeDrawing_2 (hXS59 _ _ (hXS54 _ _ hl0A)).1 (fun cy => wAt_2 cy _ (hXS59 _ _ (hXS54 _ _ hl0A)).2) rfl 9 (by decide) (List.mem_of_getElem? (i := 1) rfl) rfl rfl dX2_judgeDrawing_14 ?_
  refine wk_icmp_eq C (tgt := 22) dX2_judgeDrawing_17 (by decide) (fun c63 => ?_) (fun c63 => ?_)
  · rw [if_pos c63] at h
    refine wk_iconst C (v := 0) dX2_judgeDrawing_22 (by decide) ?_
    refine wk_istore_n C (lv' := [some (.ref l0A), some (.ref l1A), some (.ref l2A), some (.int (0 : Int32)), none, none]) dX2_judgeDrawing_23 rfl (by decide) rfl ?_
    exact wk_forget (lv' := [some (.ref l0A), none, some (.ref l2A), some (.int (0 : Int32)), none, none]) (wkLs.le ⟨rfl, rfl, rfl, trivial⟩) (ih _ _ _ _ hWS59 (wkExt.tr (wkExt.tr hE hXS54) hXS59) (hXS59 _ _ (hXS54 _ _ hl0A)) (hXS59 _ _ (hXS54 _ _ hl2A)) h)
  · rw [if_neg c63] at h
    refine wk_iconst C (v := 1) dX2_judgeDrawing_20 (by decide) ?_
    exact E _ _ _ _ _ _ (Nat.le_refl 0) (Nat.le_refl 0) dX2_judgeDrawing_21 ⟨(1 : Int32), rfl, h, hWS59, (wkExt.tr (wkExt.tr hE hXS54) hXS59)⟩
def wvX2_areWaysOf : List Cond := .code yX2_areWaysOf cX2_areWaysOf 6 (some .boolean) :: (([.fieldLink RX2 62 "Witnessworks$Drawings" "nodeCount" "I", .fieldLink RX2 46 "Witnessworks$Drawings" "places" "I", .methodLink RX2 153 yX2_areTwoHalves, .instanceMethod yX2_areTwoHalves, .selects RX2 yX2_areTwoHalves yX2_areTwoHalves, .initialized RX2, .fieldLink RX2 9 "Witnessworks$Drawings" "near" "[I", .methodLink RX2 100 yJ6_bitCount_0f7a4, .static yJ6_bitCount_0f7a4, .initialized RJ6, .static yX11_has, .initialized RX11, .methodLink RX2 150 yX2_followWay, .instanceMethod yX2_followWay, .selects RX2 yX2_followWay yX2_followWay, .fieldLink RX2 31 "Witnessworks$Drawings" "ways" "[I", .methodLink RX2 92 yJ7_fill_53178, .static yJ7_fill_53178, .initialized RJ7] : List Cond) ++ ((wsX20) ++ (wvX2_areTwoHalves ++ (wvJ6_bitCount_0f7a4 ++ (wvX11_has ++ (wvX2_followWay ++ (wvJ7_fill_53178)))))))
theorem huX2_areWaysOf_2 : ∀ w ∈ u_ws RX2 TX2 10, w ∈ wvX2_areWaysOf := fun w h => List.mem_cons_of_mem _ (List.mem_append_right _ (List.mem_append_left _ h))
theorem hbX2_areWaysOf_X2_areTwoHalves : ∀ w ∈ wvX2_areTwoHalves, w ∈ wvX2_areWaysOf := fun w h => List.mem_cons_of_mem _ (List.mem_append_right _ (List.mem_append_right _ (List.mem_append_left _ h)))
theorem hbX2_areWaysOf_J6_bitCount_0f7a4 : ∀ w ∈ wvJ6_bitCount_0f7a4, w ∈ wvX2_areWaysOf := fun w h => List.mem_cons_of_mem _ (List.mem_append_right _ (List.mem_append_right _ (List.mem_append_right _ (List.mem_append_left _ h))))
theorem hbX2_areWaysOf_X11_has : ∀ w ∈ wvX11_has, w ∈ wvX2_areWaysOf := fun w h => List.mem_cons_of_mem _ (List.mem_append_right _ (List.mem_append_right _ (List.mem_append_right _ (List.mem_append_right _ (List.mem_append_left _ h)))))
theorem hbX2_areWaysOf_X2_followWay : ∀ w ∈ wvX2_followWay, w ∈ wvX2_areWaysOf := fun w h => List.mem_cons_of_mem _ (List.mem_append_right _ (List.mem_append_right _ (List.mem_append_right _ (List.mem_append_right _ (List.mem_append_right _ (List.mem_append_left _ h))))))
theorem hbX2_areWaysOf_J7_fill_53178 : ∀ w ∈ wvJ7_fill_53178, w ∈ wvX2_areWaysOf := fun w h => List.mem_cons_of_mem _ (List.mem_append_right _ (List.mem_append_right _ (List.mem_append_right _ (List.mem_append_right _ (List.mem_append_right _ (List.mem_append_right _ h))))))
theorem gdX2_areWaysOf : ∀ w ∈ wvX2_areWaysOf, wkGd w := wkGdC rfl (wkGdA (wkGdL (by decide +kernel)) (wkGdA gdX2 (wkGdA gdX2_areTwoHalves (wkGdA gdJ6_bitCount_0f7a4 (wkGdA gdX11_has (wkGdA gdX2_followWay gdJ7_fill_53178))))))
def rX2_areWaysOf_b0 (F : Nat) (rec : Nat → Nat → Int32 → Int32 → Int32 → Int32 → wPS → (Int32 → wPS → Prop) → Prop) (l0A : Nat) (l1I : Int32) (l2I : Int32) (l3I : Int32) (S : wPS) (Φ : (Int32 → wPS → Prop)) : Prop :=
  if (gDrawings_nodeCount S l0A) ≤ l3I then (if l2I = (gDrawings_places S l0A) then (if l1I = (5 : Int32) then (Φ (1 : Int32) S) else (rX2_areTwoHalves F l0A S fun v4 S5 => if v4 = 0 then (Φ (0 : Int32) S5) else (Φ (1 : Int32) S5))) else (Φ (0 : Int32) S)) else (rec 1 l0A l1I l2I l3I (0 : Int32) S Φ)
def rX2_areWaysOf_b1 (F : Nat) (rec : Nat → Nat → Int32 → Int32 → Int32 → Int32 → wPS → (Int32 → wPS → Prop) → Prop) (l0A : Nat) (l1I : Int32) (l2I : Int32) (l3I : Int32) (l4I : Int32) (S : wPS) (Φ : (Int32 → wPS → Prop)) : Prop :=
  if (gDrawings_nodeCount S l0A) ≤ l4I then (wkLt (l3I + (1 : Int32)) fun x11 => rec 0 l0A l1I l2I x11 0 S Φ) else (¬ (l3I < 0 ∨ S.len (wkAd (gDrawings_near S l0A)) ≤ (l3I).toNatClampNeg) ∧ rJ6_bitCount_0f7a4 F (S.rI (wkAd (gDrawings_near S l0A)) (l3I).toNatClampNeg) S fun v13 S14 => if v13 ≤ (2 : Int32) then (wkLt (l4I + (1 : Int32)) fun x19 => rec 1 l0A l1I l2I l3I x19 S14 Φ) else (¬ (l3I < 0 ∨ S14.len (wkAd (gDrawings_near S14 l0A)) ≤ (l3I).toNatClampNeg) ∧ rX11_has F (S14.rI (wkAd (gDrawings_near S14 l0A)) (l3I).toNatClampNeg) l4I S14 fun v21 S22 => if v21 = 0 then (wkLt (l4I + (1 : Int32)) fun x27 => rec 1 l0A l1I l2I l3I x27 S22 Φ) else (rX2_followWay F l0A l3I l4I S22 fun v28 S29 => if v28 = 0 then (Φ (0 : Int32) S29) else (wkLt ((l2I + v28)) fun x34 => wkLt (l4I + (1 : Int32)) fun x35 => rec 1 l0A l1I x34 l3I x35 S29 Φ))))
def rX2_areWaysOf_go (F : Nat) : Nat → Nat → Nat → Int32 → Int32 → Int32 → Int32 → wPS → (Int32 → wPS → Prop) → Prop
  | 0, _, _, _, _, _, _, _, _ => False
  | k' + 1, lab, l0A, l1I, l2I, l3I, l4I, S, Φ => if lab = 0 then rX2_areWaysOf_b0 F (rX2_areWaysOf_go F k') l0A l1I l2I l3I S Φ else if lab = 1 then rX2_areWaysOf_b1 F (rX2_areWaysOf_go F k') l0A l1I l2I l3I l4I S Φ else False
def rX2_areWaysOf_s (F : Nat) (rec : Nat → Nat → Int32 → Int32 → Int32 → Int32 → wPS → (Int32 → wPS → Prop) → Prop) (l0A : Nat) (l1I : Int32) (S : wPS) (Φ : (Int32 → wPS → Prop)) : Prop :=
  rJ7_fill_53178 F (wkAd (gDrawings_ways S l0A)) (0 : Int32) S fun v36 S37 => rec 0 l0A l1I (0 : Int32) (0 : Int32) 0 S37 Φ
def rX2_areWaysOf (F : Nat) (l0A : Nat) (l1I : Int32) (S : wPS) (Φ : (Int32 → wPS → Prop)) : Prop := rX2_areWaysOf_s F (rX2_areWaysOf_go F F) l0A l1I S Φ
set_option maxHeartbeats 4000000 in
set_option maxRecDepth 100000 in
theorem tX2_areWaysOf_go {l : Launch} {X : wkX} {d F : Nat} {S0 : wPS} {Φ : (Int32 → wPS → Prop)} (C : wkC X cX2_areWaysOf RX2 6 wvX2_areWaysOf) (hR : wkRm X d 0 0) (hd : 3 ≤ d) (E : wkEnd l X cX2_areWaysOf 6 (some .boolean) 0 0 (fun v' S'' => ∃ v : Int32, v' = some (.int v) ∧ Φ v S'' ∧ wkWF S'' ∧ wkExt S0 S'')) : ∀ k' : Nat, (∀ (l0A : Nat) (l1I : Int32) (l2I : Int32) (l3I : Int32) (S : wPS), wkWF S → wkExt S0 S → wkIs S l0A 2 → rX2_areWaysOf_go F k' 0 l0A l1I l2I l3I 0 S Φ → wkGo l X 6 0 0 12 S [some (.ref l0A), some (.int l1I), some (.int l2I), some (.int l3I), none, none] []) ∧ (∀ (l0A : Nat) (l1I : Int32) (l2I : Int32) (l3I : Int32) (l4I : Int32) (S : wPS), wkWF S → wkExt S0 S → wkIs S l0A 2 → rX2_areWaysOf_go F k' 1 l0A l1I l2I l3I l4I S Φ → wkGo l X 6 0 0 23 S [some (.ref l0A), some (.int l1I), some (.int l2I), some (.int l3I), some (.int l4I), none] []) := by
  intro k'
  induction k' with
  | zero => exact ⟨fun l0A l1I l2I l3I S hW hE hl0A h => h.elim, fun l0A l1I l2I l3I l4I S hW hE hl0A h => h.elim⟩
  | succ k' ih =>
    refine ⟨?_, ?_⟩
    · intro l0A l1I l2I l3I S hW hE hl0A h
      have h : rX2_areWaysOf_b0 F (rX2_areWaysOf_go F k') l0A l1I l2I l3I S Φ := by
        rw [rX2_areWaysOf_go, if_pos (rfl : (0 : Nat) = 0)] at h
        exact h
      unfold rX2_areWaysOf_b0 at h
      refine wk_iload_n C dX2_areWaysOf_12 rfl rfl ?_
      refine wk_aload_n C dX2_areWaysOf_13 rfl rfl ?_
      refine wk_get C (v := .int (gDrawings_nodeCount S l0A)) huX2_areWaysOf_2 hl0A.1 (fun cy => wAt_2 cy _ hl0A.2) rfl 8 (by decide) (List.mem_of_getElem? (i := 1) rfl) rfl rfl dX2_areWaysOf_14 ?_
      refine wk_icmp_ge C (tgt := 92) dX2_areWaysOf_17 (by decide) (fun c1 => ?_) (fun c1 => ?_)
      · rw [if_pos c1] at h
        refine wk_iload_n C dX2_areWaysOf_92 rfl rfl ?_
        refine wk_aload_n C dX2_areWaysOf_93 rfl rfl ?_
        refine wk_get C (v := .int (gDrawings_places S l0A)) huX2_areWaysOf_2 hl0A.1 (fun cy => wAt_2 cy _ hl0A.2) rfl 9 (by decide) (List.mem_of_getElem? (i := 2) rfl) rfl rfl dX2_areWaysOf_94 ?_
        refine wk_icmp_ne C (tgt := 116) dX2_areWaysOf_97 (by decide) (fun c2 => ?_) (fun c2 => ?_)
        · rw [if_neg c2] at h
          refine wk_iconst C (v := 0) dX2_areWaysOf_116 (by decide) ?_
          exact E _ _ _ _ _ _ (Nat.le_refl 0) (Nat.le_refl 0) dX2_areWaysOf_117 rfl ⟨(0 : Int32), rfl, h, hW, hE⟩
        · rw [if_pos c2] at h
          refine wk_iload_n C dX2_areWaysOf_100 rfl rfl ?_
          refine wk_iconst C (v := 5) dX2_areWaysOf_101 (by decide) ?_
          refine wk_icmp_eq C (tgt := 112) dX2_areWaysOf_102 (by decide) (fun c3 => ?_) (fun c3 => ?_)
          · rw [if_pos c3] at h
            refine wk_iconst C (v := 1) dX2_areWaysOf_112 (by decide) ?_
            refine wk_goto C (tgt := 117) dX2_areWaysOf_113 (by decide) ?_
            exact E _ _ _ _ _ _ (Nat.le_refl 0) (Nat.le_refl 0) dX2_areWaysOf_117 rfl ⟨(1 : Int32), rfl, h, hW, hE⟩
          · rw [if_neg c3] at h
            refine wk_aload_n C dX2_areWaysOf_105 rfl rfl ?_
            refine wk_callV C hR (As := []) (cnt := 0) (tX2_areTwoHalves (l := l) hW hl0A h) rfl (wkGoodV (List.mem_of_getElem? (i := 3) rfl) (List.mem_of_getElem? (i := 4) rfl) (List.mem_of_getElem? (i := 5) rfl) (List.mem_of_getElem? (i := 6) rfl) hbX2_areWaysOf_X2_areTwoHalves gdX2_areTwoHalves) (Nat.le_trans (by decide : 1 + 1 ≤ 3) hd) (by decide) hl0A.1 (fun cy => wAt_2 cy _ hl0A.2) rfl ⟨by decide, by decide, by decide +kernel⟩ rfl rfl (Nat.le_of_ble_eq_true rfl) (Nat.le_refl 0) (Nat.le_refl 0) dX2_areWaysOf_106 (fun v' S5 hp => ?_)
            obtain ⟨v4, rfl, h, hWS5, hXS5⟩ := hp
            refine wk_if_eq C (tgt := 116) dX2_areWaysOf_109 (by decide) (fun c9 => ?_) (fun c9 => ?_)
            · rw [if_pos c9] at h
              refine wk_iconst C (v := 0) dX2_areWaysOf_116 (by decide) ?_
              exact E _ _ _ _ _ _ (Nat.le_refl 0) (Nat.le_refl 0) dX2_areWaysOf_117 rfl ⟨(0 : Int32), rfl, h, hWS5, (wkExt.tr hE hXS5)⟩
            · rw [if_neg c9] at h
              refine wk_iconst C (v := 1) dX2_areWaysOf_112 (by decide) ?_
              refine wk_goto C (tgt := 117) dX2_areWaysOf_113 (by decide) ?_
              exact E _ _ _ _ _ _ (Nat.le_refl 0) (Nat.le_refl 0) dX2_areWaysOf_117 rfl ⟨(1 : Int32), rfl, h, hWS5, (wkExt.tr hE hXS5)⟩
      · rw [if_neg c1] at h
        refine wk_iconst C (v := 0) dX2_areWaysOf_20 (by decide) ?_
        refine wk_istore C (lv' := [some (.ref l0A), some (.int l1I), some (.int l2I), some (.int l3I), some (.int (0 : Int32)), none]) dX2_areWaysOf_21 (by decide) rfl ?_
        exact wk_forget (lv' := [some (.ref l0A), some (.int l1I), some (.int l2I), some (.int l3I), some (.int (0 : Int32)), none]) (wkLs.le ⟨rfl, rfl, rfl, rfl, rfl, trivial⟩) (ih.2 _ _ _ _ _ _ hW hE hl0A h)
    · intro l0A l1I l2I l3I l4I S hW hE hl0A h
      have h : rX2_areWaysOf_b1 F (rX2_areWaysOf_go F k') l0A l1I l2I l3I l4I S Φ := by
        rw [rX2_areWaysOf_go, if_neg (show ¬ (1 : Nat) = 0 by decide), if_pos (rfl : (1 : Nat) = 1)] at h
        exact h
      unfold rX2_areWaysOf_b1 at h
      refine wk_iload C dX2_areWaysOf_23 rfl ?_
      refine wk_aload_n C dX2_areWaysOf_25 rfl rfl ?_
      refine wk_get C (v := .int (gDrawings_nodeCount S l0A)) huX2_areWaysOf_2 hl0A.1 (fun cy => wAt_2 cy _ hl0A.2) rfl 8 (by decide) (List.mem_of_getElem? (i := 1) rfl) rfl rfl dX2_areWaysOf_26 ?_
      refine wk_icmp_ge C (tgt := 86) dX2_areWaysOf_29 (by decide) (fun c10 => ?_) (fun c10 => ?_)
      · rw [if_pos c10] at h
        obtain ⟨x11, ex11, h⟩ := wkLt_some h
        refine wk_iinc C (lv' := [some (.ref l0A), some (.int l1I), some (.int l2I), some (.int x11), some (.int l4I), none]) dX2_areWaysOf_86 rfl (by rw [ex11]; rfl) (by decide) rfl ?_
        refine wk_goto C (tgt := 12) dX2_areWaysOf_89 (by decide) ?_
        exact wk_forget (lv' := [some (.ref l0A), some (.int l1I), some (.int l2I), some (.int x11), none, none]) (wkLs.le ⟨rfl, rfl, rfl, rfl, trivial⟩) (ih.1 _ _ _ _ _ hW hE hl0A h)
      · rw [if_neg c10] at h
        refine wk_aload_n C dX2_areWaysOf_32 rfl rfl ?_
        refine wk_get C huX2_areWaysOf_2 hl0A.1 (fun cy => wAt_2 cy _ hl0A.2) rfl 0 (by decide) (List.mem_of_getElem? (i := 7) rfl) rfl (congrArg some (congrArg va_rf (wf_Drawings_near hW hl0A).1)) dX2_areWaysOf_33 ?_
        refine wk_iload_n C dX2_areWaysOf_36 rfl rfl ?_
        obtain ⟨i12, h⟩ := h
        refine wk_iald C (wf_Drawings_near hW hl0A).2.1 (wf_Drawings_near hW hl0A).2.2 i12 rfl dX2_areWaysOf_37 ?_
        refine wk_callW C hR (As := [.int (S.rI (wkAd (gDrawings_near S l0A)) (l3I).toNatClampNeg)]) (cnt := 1) (tJ6_bitCount_0f7a4 (l := l) hW  h) rfl (wkGoodW (List.mem_of_getElem? (i := 8) rfl) (List.mem_of_getElem? (i := 9) rfl) (List.mem_of_getElem? (i := 10) rfl) hbX2_areWaysOf_J6_bitCount_0f7a4 gdJ6_bitCount_0f7a4) (Nat.le_trans (by decide : 0 + 1 ≤ 3) hd) (by decide) ⟨by decide, by decide, by decide +kernel⟩ rfl rfl (Nat.le_of_ble_eq_true rfl) (Nat.le_refl 0) (Nat.le_refl 0) dX2_areWaysOf_38 (fun v' S14 hp => ?_)
        obtain ⟨v13, rfl, h, hWS14, hXS14⟩ := hp
        refine wk_iconst C (v := 2) dX2_areWaysOf_41 (by decide) ?_
        refine wk_icmp_le C (tgt := 80) dX2_areWaysOf_42 (by decide) (fun c18 => ?_) (fun c18 => ?_)
        · rw [if_pos c18] at h
          obtain ⟨x19, ex19, h⟩ := wkLt_some h
          refine wk_iinc C (lv' := [some (.ref l0A), some (.int l1I), some (.int l2I), some (.int l3I), some (.int x19), none]) dX2_areWaysOf_80 rfl (by rw [ex19]; rfl) (by decide) rfl ?_
          refine wk_goto C (tgt := 23) dX2_areWaysOf_83 (by decide) ?_
          exact wk_forget (lv' := [some (.ref l0A), some (.int l1I), some (.int l2I), some (.int l3I), some (.int x19), none]) (wkLs.le ⟨rfl, rfl, rfl, rfl, rfl, trivial⟩) (ih.2 _ _ _ _ _ _ hWS14 (wkExt.tr hE hXS14) (hXS14 _ _ hl0A) h)
        · rw [if_neg c18] at h
          refine wk_aload_n C dX2_areWaysOf_45 rfl rfl ?_
          refine wk_get C huX2_areWaysOf_2 (hXS14 _ _ hl0A).1 (fun cy => wAt_2 cy _ (hXS14 _ _ hl0A).2) rfl 0 (by decide) (List.mem_of_getElem? (i := 7) rfl) rfl (congrArg some (congrArg va_rf (wf_Drawings_near hWS14 (hXS14 _ _ hl0A)).1)) dX2_areWaysOf_46 ?_
          refine wk_iload_n C dX2_areWaysOf_49 rfl rfl ?_
          obtain ⟨i20, h⟩ := h
          refine wk_iald C (wf_Drawings_near hWS14 (hXS14 _ _ hl0A)).2.1 (wf_Drawings_near hWS14 (hXS14 _ _ hl0A)).2.2 i20 rfl dX2_areWaysOf_50 ?_
          refine wk_iload C dX2_areWaysOf_51 rfl ?_
          refine wk_callN C hR (y := yX11_has) (host := "Witnessworks") (As := [.int (S14.rI (wkAd (gDrawings_near S14 l0A)) (l3I).toNatClampNeg), .int l4I]) (cnt := 2) (tX11_has (l := l) hWS14  h) rfl (fun w h => ⟨hbX2_areWaysOf_X11_has w h, gdX11_has w h⟩) (by decide +kernel) (List.mem_of_getElem? (i := 11) rfl) (List.mem_of_getElem? (i := 12) rfl) (Nat.le_trans (by decide : 0 + 1 ≤ 3) hd) (by decide) ⟨by decide, by decide, by decide +kernel⟩ rfl rfl (Nat.le_of_ble_eq_true rfl) (Nat.le_refl 0) (Nat.le_refl 0) dX2_areWaysOf_53 (fun v' S22 hp => ?_)
          obtain ⟨v21, rfl, h, hWS22, hXS22⟩ := hp
          refine wk_if_eq C (tgt := 80) dX2_areWaysOf_56 (by decide) (fun c26 => ?_) (fun c26 => ?_)
          · rw [if_pos c26] at h
            obtain ⟨x27, ex27, h⟩ := wkLt_some h
            refine wk_iinc C (lv' := [some (.ref l0A), some (.int l1I), some (.int l2I), some (.int l3I), some (.int x27), none]) dX2_areWaysOf_80 rfl (by rw [ex27]; rfl) (by decide) rfl ?_
            refine wk_goto C (tgt := 23) dX2_areWaysOf_83 (by decide) ?_
            exact wk_forget (lv' := [some (.ref l0A), some (.int l1I), some (.int l2I), some (.int l3I), some (.int x27), none]) (wkLs.le ⟨rfl, rfl, rfl, rfl, rfl, trivial⟩) (ih.2 _ _ _ _ _ _ hWS22 (wkExt.tr (wkExt.tr hE hXS14) hXS22) (hXS22 _ _ (hXS14 _ _ hl0A)) h)
          · rw [if_neg c26] at h
            refine wk_aload_n C dX2_areWaysOf_59 rfl rfl ?_
            refine wk_iload_n C dX2_areWaysOf_60 rfl rfl ?_
            refine wk_iload C dX2_areWaysOf_61 rfl ?_
            refine wk_callV C hR (As := [.int l3I, .int l4I]) (cnt := 2) (tX2_followWay (l := l) hWS22 (hXS22 _ _ (hXS14 _ _ hl0A)) h) rfl (wkGoodV (List.mem_of_getElem? (i := 13) rfl) (List.mem_of_getElem? (i := 14) rfl) (List.mem_of_getElem? (i := 15) rfl) (List.mem_of_getElem? (i := 6) rfl) hbX2_areWaysOf_X2_followWay gdX2_followWay) (Nat.le_trans (by decide : 2 + 1 ≤ 3) hd) (by decide) (hXS22 _ _ (hXS14 _ _ hl0A)).1 (fun cy => wAt_2 cy _ (hXS22 _ _ (hXS14 _ _ hl0A)).2) rfl ⟨by decide, by decide, by decide +kernel⟩ rfl rfl (Nat.le_of_ble_eq_true rfl) (Nat.le_refl 0) (Nat.le_refl 0) dX2_areWaysOf_63 (fun v' S29 hp => ?_)
            obtain ⟨v28, rfl, h, hWS29, hXS29⟩ := hp
            refine wk_istore C (lv' := [some (.ref l0A), some (.int l1I), some (.int l2I), some (.int l3I), some (.int l4I), some (.int v28)]) dX2_areWaysOf_66 (by decide) rfl ?_
            refine wk_iload C dX2_areWaysOf_68 rfl ?_
            refine wk_if_ne C (tgt := 75) dX2_areWaysOf_70 (by decide) (fun c33 => ?_) (fun c33 => ?_)
            · rw [if_neg c33] at h
              refine wk_iload_n C dX2_areWaysOf_75 rfl rfl ?_
              refine wk_iload C dX2_areWaysOf_76 rfl ?_
              refine wk_iadd C dX2_areWaysOf_78 rfl ?_
              obtain ⟨x34, ex34, h⟩ := wkLt_some h
              refine wk_topi ex34 ?_
              refine wk_istore_n C (lv' := [some (.ref l0A), some (.int l1I), some (.int x34), some (.int l3I), some (.int l4I), some (.int v28)]) dX2_areWaysOf_79 rfl (by decide) rfl ?_
              obtain ⟨x35, ex35, h⟩ := wkLt_some h
              refine wk_iinc C (lv' := [some (.ref l0A), some (.int l1I), some (.int x34), some (.int l3I), some (.int x35), some (.int v28)]) dX2_areWaysOf_80 rfl (by rw [ex35]; rfl) (by decide) rfl ?_
              refine wk_goto C (tgt := 23) dX2_areWaysOf_83 (by decide) ?_
              exact wk_forget (lv' := [some (.ref l0A), some (.int l1I), some (.int x34), some (.int l3I), some (.int x35), none]) (wkLs.le ⟨rfl, rfl, rfl, rfl, rfl, trivial⟩) (ih.2 _ _ _ _ _ _ hWS29 (wkExt.tr (wkExt.tr (wkExt.tr hE hXS14) hXS22) hXS29) (hXS29 _ _ (hXS22 _ _ (hXS14 _ _ hl0A))) h)
            · rw [if_pos c33] at h
              refine wk_iconst C (v := 0) dX2_areWaysOf_73 (by decide) ?_
              exact E _ _ _ _ _ _ (Nat.le_refl 0) (Nat.le_refl 0) dX2_areWaysOf_74 rfl ⟨(0 : Int32), rfl, h, hWS29, (wkExt.tr (wkExt.tr (wkExt.tr hE hXS14) hXS22) hXS29)⟩
set_option maxHeartbeats 4000000 in
set_option maxRecDepth 100000 in
theorem tX2_areWaysOf {l : Launch} {g : wkG} {F : Nat}  {S : wPS} {l0A : Nat} {l1I : Int32} {Φ : (Int32 → wPS → Prop)} (hW : wkWF S) (hl0A : wkIs S l0A 2) (h : rX2_areWaysOf F l0A l1I S Φ) : wkMet l g yX2_areWaysOf wvX2_areWaysOf 3 0 0 [.ref l0A, .int l1I] S (fun v' S'' => ∃ v : Int32, v' = some (.int v) ∧ Φ v S'' ∧ wkWF S'' ∧ wkExt S S'') := by
  refine wkMet_of (ret := (some .boolean)) (by decide) rfl (Nat.le_of_ble_eq_true rfl) (fun X hg C hR E => ?_)
  subst hg
  have hE : wkExt S S := wkExt.rf
  have hd : 3 ≤ 3 := Nat.le_refl _
  show wkGo l X 6 0 0 0 S [some (.ref l0A), some (.int l1I), none, none, none, none] []
  have ih := tX2_areWaysOf_go (F := F) C hR hd E F
  have h : rX2_areWaysOf_s F (rX2_areWaysOf_go F F) l0A l1I S Φ := h
  unfold rX2_areWaysOf_s at h
  refine wk_iconst C (v := 0) dX2_areWaysOf_0 (by decide) ?_
  refine wk_istore_n C (lv' := [some (.ref l0A), some (.int l1I), some (.int (0 : Int32)), none, none, none]) dX2_areWaysOf_1 rfl (by decide) rfl ?_
  refine wk_aload_n C dX2_areWaysOf_2 rfl rfl ?_
  refine wk_get C huX2_areWaysOf_2 hl0A.1 (fun cy => wAt_2 cy _ hl0A.2) rfl 7 (by decide) (List.mem_of_getElem? (i := 16) rfl) rfl (congrArg some (congrArg va_rf (wf_Drawings_ways hW hl0A).1)) dX2_areWaysOf_3 ?_
  refine wk_iconst C (v := 0) dX2_areWaysOf_6 (by decide) ?_
  refine wk_callW C hR (As := [.ref (wkAd (gDrawings_ways S l0A)), .int (0 : Int32)]) (cnt := 2) (tJ7_fill_53178 (l := l) hW (wf_Drawings_ways hW hl0A).2 h) rfl (wkGoodW (List.mem_of_getElem? (i := 17) rfl) (List.mem_of_getElem? (i := 18) rfl) (List.mem_of_getElem? (i := 19) rfl) hbX2_areWaysOf_J7_fill_53178 gdJ7_fill_53178) (Nat.le_trans (by decide : 0 + 1 ≤ 3) hd) (by decide) ⟨by decide, by decide, by decide +kernel⟩ rfl rfl (Nat.le_of_ble_eq_true rfl) (Nat.le_refl 0) (Nat.le_refl 0) dX2_areWaysOf_7 (fun v' S37 hp => ?_)
  obtain ⟨v36, rfl, h, hWS37, hXS37⟩ := hp
  refine wk_iconst C (v := 0) dX2_areWaysOf_10 (by decide) ?_
  refine wk_istore_n C (lv' := [some (.ref l0A), some (.int l1I), some (.int (0 : Int32)), some (.int (0 : Int32)), none, none]) dX2_areWaysOf_11 rfl (by decide) rfl ?_
  exact wk_forget (lv' := [some (.ref l0A), some (.int l1I), some (.int (0 : Int32)), some (.int (0 : Int32)), none, none]) (wkLs.le ⟨rfl, rfl, rfl, rfl, trivial⟩) (ih.1 _ _ _ _ _ hWS37 (wkExt.tr hE hXS37) (hXS37 _ _ hl0A) h)
