def wvX1_judgeTruths : List Cond := .code yX1_judgeTruths cX1_judgeTruths 4 (some .int) :: (([.fieldLink RX1 44 "Witnessworks$Clauses" "depth" "I", .fieldLink RX1 47 "Witnessworks$Clauses" "ones" "I", .methodLink RX1 54 yJ6_bitCount_0f7a4, .static yJ6_bitCount_0f7a4, .initialized RJ6, .fieldLink RX1 60 "Witnessworks$Entry" "boundNow" "I", .methodLink RX1 63 yX1_brokenItem, .instanceMethod yX1_brokenItem, .selects RX1 yX1_brokenItem yX1_brokenItem, .initialized RX1, .methodLink RX1 125 yX9_at, .instanceMethod yX9_at, .selects RX9 yX9_at yX9_at, .initialized RX9, .fieldLink RX1 118 "Witnessworks$Row" "count" "I", .fieldLink RX1 18 "Witnessworks$Entry" "size" "I", .methodLink RX1 121 yX9_liesWithin, .instanceMethod yX9_liesWithin, .selects RX9 yX9_liesWithin yX9_liesWithin] : List Cond) ++ ((wsX10 ++ (wsX30 ++ (wsX90))) ++ (wvJ6_bitCount_0f7a4 ++ (wvX1_brokenItem ++ (wvX9_at ++ (wvX9_liesWithin))))))
theorem huX1_judgeTruths_1 : ∀ w ∈ u_ws RX1 TX1 7, w ∈ wvX1_judgeTruths := fun w h => List.mem_cons_of_mem _ (List.mem_append_right _ (List.mem_append_left _ (List.mem_append_left _ h)))
theorem huX1_judgeTruths_3 : ∀ w ∈ u_ws RX3 TX3 17, w ∈ wvX1_judgeTruths := fun w h => List.mem_cons_of_mem _ (List.mem_append_right _ (List.mem_append_left _ (List.mem_append_right _ (List.mem_append_left _ h))))
theorem huX1_judgeTruths_9 : ∀ w ∈ u_ws RX9 TX9 2, w ∈ wvX1_judgeTruths := fun w h => List.mem_cons_of_mem _ (List.mem_append_right _ (List.mem_append_left _ (List.mem_append_right _ (List.mem_append_right _ h))))
theorem hbX1_judgeTruths_J6_bitCount_0f7a4 : ∀ w ∈ wvJ6_bitCount_0f7a4, w ∈ wvX1_judgeTruths := fun w h => List.mem_cons_of_mem _ (List.mem_append_right _ (List.mem_append_right _ (List.mem_append_left _ h)))
theorem hbX1_judgeTruths_X1_brokenItem : ∀ w ∈ wvX1_brokenItem, w ∈ wvX1_judgeTruths := fun w h => List.mem_cons_of_mem _ (List.mem_append_right _ (List.mem_append_right _ (List.mem_append_right _ (List.mem_append_left _ h))))
theorem hbX1_judgeTruths_X9_at : ∀ w ∈ wvX9_at, w ∈ wvX1_judgeTruths := fun w h => List.mem_cons_of_mem _ (List.mem_append_right _ (List.mem_append_right _ (List.mem_append_right _ (List.mem_append_right _ (List.mem_append_left _ h)))))
theorem hbX1_judgeTruths_X9_liesWithin : ∀ w ∈ wvX9_liesWithin, w ∈ wvX1_judgeTruths := fun w h => List.mem_cons_of_mem _ (List.mem_append_right _ (List.mem_append_right _ (List.mem_append_right _ (List.mem_append_right _ (List.mem_append_right _ h)))))
theorem gdX1_judgeTruths : ∀ w ∈ wvX1_judgeTruths, wkGd w := wkGdC rfl (wkGdA (wkGdL (by decide +kernel)) (wkGdA (wkGdA gdX1 (wkGdA gdX3 gdX9)) (wkGdA gdJ6_bitCount_0f7a4 (wkGdA gdX1_brokenItem (wkGdA gdX9_at gdX9_liesWithin)))))
def rX1_judgeTruths_b0 (F : Nat) (rec : Nat → Nat → Nat → Nat → Int32 → wPS → (Int32 → wPS → Prop) → Prop) (l0A : Nat) (l1A : Nat) (l2A : Nat) (l3I : Int32) (S : wPS) (Φ : (Int32 → wPS → Prop)) : Prop :=
  if (gClauses_depth S l0A) ≤ l3I then (rJ6_bitCount_0f7a4 F (gClauses_ones S l0A) S fun v2 S3 => if v2 ≤ (gEntry_boundNow S3 l1A) then (rX1_brokenItem F l0A l1A S3 fun v8 S9 => if 0 ≤ v8 then (Φ (3 : Int32) S9) else (Φ (0 : Int32) S9)) else (Φ (2 : Int32) S3)) else (rX9_at F l2A l3I S fun v14 S15 => wkLt (wu_Clauses_ones S15 l0A ((gClauses_ones S l0A) ||| (v14 <<< (l3I &&& 31)))) fun S19 => wkLt (l3I + (1 : Int32)) fun x20 => rec 0 l0A l1A l2A x20 S19 Φ)
def rX1_judgeTruths_go (F : Nat) : Nat → Nat → Nat → Nat → Nat → Int32 → wPS → (Int32 → wPS → Prop) → Prop
  | 0, _, _, _, _, _, _, _ => False
  | k' + 1, lab, l0A, l1A, l2A, l3I, S, Φ => if lab = 0 then rX1_judgeTruths_b0 F (rX1_judgeTruths_go F k') l0A l1A l2A l3I S Φ else False
def rX1_judgeTruths_s (F : Nat) (rec : Nat → Nat → Nat → Nat → Int32 → wPS → (Int32 → wPS → Prop) → Prop) (l0A : Nat) (l1A : Nat) (l2A : Nat) (S : wPS) (Φ : (Int32 → wPS → Prop)) : Prop :=
  if (gRow_count S l2A) = (gEntry_size S l1A) then (rX9_liesWithin F l2A (0 : Int32) (0 : Int32) (1 : Int32) S fun v22 S23 => if v22 = 0 then (Φ (1 : Int32) S23) else (wkLt (wu_Clauses_depth S23 l0A (gEntry_size S23 l1A)) fun S28 => wkLt (wu_Clauses_ones S28 l0A (0 : Int32)) fun S29 => rec 0 l0A l1A l2A (0 : Int32) S29 Φ)) else (Φ (1 : Int32) S)
def rX1_judgeTruths (F : Nat) (l0A : Nat) (l1A : Nat) (l2A : Nat) (S : wPS) (Φ : (Int32 → wPS → Prop)) : Prop := rX1_judgeTruths_s F (rX1_judgeTruths_go F F) l0A l1A l2A S Φ
set_option maxHeartbeats 4000000 in
set_option maxRecDepth 100000 in
theorem tX1_judgeTruths_go {l : Launch} {X : wkX} {d F : Nat} {S0 : wPS} {Φ : (Int32 → wPS → Prop)} (C : wkC X cX1_judgeTruths RX1 4 wvX1_judgeTruths) (hR : wkRm X d 0 0) (hd : 3 ≤ d) (E : wkEnd l X cX1_judgeTruths 4 (some .int) 0 0 (fun v' S'' => ∃ v : Int32, v' = some (.int v) ∧ Φ v S'' ∧ wkWF S'' ∧ wkExt S0 S'')) : ∀ k' : Nat, (∀ (l0A : Nat) (l1A : Nat) (l2A : Nat) (l3I : Int32) (S : wPS), wkWF S → wkExt S0 S → wkIs S l0A 1 → wkIs S l1A 3 → wkIs S l2A 9 → rX1_judgeTruths_go F k' 0 l0A l1A l2A l3I S Φ → wkGo l X 4 0 0 38 S [some (.ref l0A), some (.ref l1A), some (.ref l2A), some (.int l3I)] []) := by
  intro k'
  induction k' with
  | zero => exact fun l0A l1A l2A l3I S hW hE hl0A hl1A hl2A h => h.elim
  | succ k' ih =>
    · intro l0A l1A l2A l3I S hW hE hl0A hl1A hl2A h
      have h : rX1_judgeTruths_b0 F (rX1_judgeTruths_go F k') l0A l1A l2A l3I S Φ := by
        rw [rX1_judgeTruths_go, if_pos (rfl : (0 : Nat) = 0)] at h
        exact h
      unfold rX1_judgeTruths_b0 at h
      refine wk_iload_n C dX1_judgeTruths_38 rfl rfl ?_
      refine wk_aload_n C dX1_judgeTruths_39 rfl rfl ?_
      refine wk_get C (v := .int (gClauses_depth S l0A)) huX1_judgeTruths_1 hl0A.1 (fun cy => wAt_1 cy _ hl0A.2) rfl 4 (by decide) (List.mem_of_getElem? (i := 1) rfl) rfl rfl dX1_judgeTruths_40 ?_
      refine wk_icmp_ge C (tgt := 68) dX1_judgeTruths_43 (by decide) (fun c1 => ?_) (fun c1 => ?_)
      · rw [if_pos c1] at h
        refine wk_aload_n C dX1_judgeTruths_68 rfl rfl ?_
        refine wk_get C (v := .int (gClauses_ones S l0A)) huX1_judgeTruths_1 hl0A.1 (fun cy => wAt_1 cy _ hl0A.2) rfl 5 (by decide) (List.mem_of_getElem? (i := 2) rfl) rfl rfl dX1_judgeTruths_69 ?_
        refine wk_callW C hR (As := [.int (gClauses_ones S l0A)]) (cnt := 1) (tJ6_bitCount_0f7a4 (l := l) hW  h) rfl (wkGoodW (List.mem_of_getElem? (i := 3) rfl) (List.mem_of_getElem? (i := 4) rfl) (List.mem_of_getElem? (i := 5) rfl) hbX1_judgeTruths_J6_bitCount_0f7a4 gdJ6_bitCount_0f7a4) (Nat.le_trans (by decide : 0 + 1 ≤ 3) hd) (by decide) ⟨by decide, by decide, by decide +kernel⟩ rfl rfl (Nat.le_of_ble_eq_true rfl) (Nat.le_refl 0) (Nat.le_refl 0) dX1_judgeTruths_72 (fun v' S3 hp => ?_)
        obtain ⟨v2, rfl, h, hWS3, hXS3⟩ := hp
        refine wk_aload_n C dX1_judgeTruths_75 rfl rfl ?_
        refine wk_get C (v := .int (gEntry_boundNow S3 l1A)) huX1_judgeTruths_3 (hXS3 _ _ hl1A).1 (fun cy => wAt_3 cy _ (hXS3 _ _ hl1A).2) rfl 8 (by decide) (List.mem_of_getElem? (i := 6) rfl) rfl rfl dX1_judgeTruths_76 ?_
        refine wk_icmp_le C (tgt := 84) dX1_judgeTruths_79 (by decide) (fun c7 => ?_) (fun c7 => ?_)
        · rw [if_pos c7] at h
          refine wk_aload_n C dX1_judgeTruths_84 rfl rfl ?_
          refine wk_aload_n C dX1_judgeTruths_85 rfl rfl ?_
          refine wk_callV C hR (As := [.ref l1A]) (cnt := 1) (tX1_brokenItem (l := l) hWS3 (hXS3 _ _ hl0A) (hXS3 _ _ hl1A) h) rfl (wkGoodV (List.mem_of_getElem? (i := 7) rfl) (List.mem_of_getElem? (i := 8) rfl) (List.mem_of_getElem? (i := 9) rfl) (List.mem_of_getElem? (i := 10) rfl) hbX1_judgeTruths_X1_brokenItem gdX1_brokenItem) (Nat.le_trans (by decide : 2 + 1 ≤ 3) hd) (by decide) (hXS3 _ _ hl0A).1 (fun cy => wAt_1 cy _ (hXS3 _ _ hl0A).2) rfl ⟨by decide, by decide, by decide +kernel⟩ rfl rfl (Nat.le_of_ble_eq_true rfl) (Nat.le_refl 0) (Nat.le_refl 0) dX1_judgeTruths_86 (fun v' S9 hp => ?_)
          obtain ⟨v8, rfl, h, hWS9, hXS9⟩ := hp
          refine wk_if_ge C (tgt := 96) dX1_judgeTruths_89 (by decide) (fun c13 => ?_) (fun c13 => ?_)
          · rw [if_pos c13] at h
            refine wk_iconst C (v := 3) dX1_judgeTruths_96 (by decide) ?_
            exact E _ _ _ _ _ _ (Nat.le_refl 0) (Nat.le_refl 0) dX1_judgeTruths_97 ⟨(3 : Int32), rfl, h, hWS9, (wkExt.tr (wkExt.tr hE hXS3) hXS9)⟩
          · rw [if_neg c13] at h
            refine wk_iconst C (v := 0) dX1_judgeTruths_92 (by decide) ?_
            refine wk_goto C (tgt := 97) dX1_judgeTruths_93 (by decide) ?_
            exact E _ _ _ _ _ _ (Nat.le_refl 0) (Nat.le_refl 0) dX1_judgeTruths_97 ⟨(0 : Int32), rfl, h, hWS9, (wkExt.tr (wkExt.tr hE hXS3) hXS9)⟩
        · rw [if_neg c7] at h
          refine wk_iconst C (v := 2) dX1_judgeTruths_82 (by decide) ?_
          exact E _ _ _ _ _ _ (Nat.le_refl 0) (Nat.le_refl 0) dX1_judgeTruths_83 ⟨(2 : Int32), rfl, h, hWS3, (wkExt.tr hE hXS3)⟩
      · rw [if_neg c1] at h
        refine wk_aload_n C dX1_judgeTruths_46 rfl rfl ?_
        refine wk_dup C dX1_judgeTruths_47 rfl ?_
        refine wk_get C (v := .int (gClauses_ones S l0A)) huX1_judgeTruths_1 hl0A.1 (fun cy => wAt_1 cy _ hl0A.2) rfl 5 (by decide) (List.mem_of_getElem? (i := 2) rfl) rfl rfl dX1_judgeTruths_48 ?_
        refine wk_aload_n C dX1_judgeTruths_51 rfl rfl ?_
        refine wk_iload_n C dX1_judgeTruths_52 rfl rfl ?_
        refine wk_callV C hR (As := [.int l3I]) (cnt := 1) (tX9_at (l := l) hW hl2A h) rfl (wkGoodV (List.mem_of_getElem? (i := 11) rfl) (List.mem_of_getElem? (i := 12) rfl) (List.mem_of_getElem? (i := 13) rfl) (List.mem_of_getElem? (i := 14) rfl) hbX1_judgeTruths_X9_at gdX9_at) (Nat.le_trans (by decide : 0 + 1 ≤ 3) hd) (by decide) hl2A.1 (fun cy => wAt_9 cy _ hl2A.2) rfl ⟨by decide, by decide, by decide +kernel⟩ rfl rfl (Nat.le_of_ble_eq_true rfl) (Nat.le_refl 0) (Nat.le_refl 0) dX1_judgeTruths_53 (fun v' S15 hp => ?_)
        obtain ⟨v14, rfl, h, hWS15, hXS15⟩ := hp
        refine wk_iload_n C dX1_judgeTruths_56 rfl rfl ?_
        refine wk_ishl C dX1_judgeTruths_57 rfl ?_
        refine wk_ior C dX1_judgeTruths_58 rfl ?_
        obtain ⟨S19, eS19, h⟩ := wkLt_some h
        refine wk_put C (S' := S19) huX1_judgeTruths_1 (hXS15 _ _ hl0A).1 (fun cy => wAt_1 cy _ (hXS15 _ _ hl0A).2) rfl 5 (by decide) (List.mem_of_getElem? (i := 2) rfl) rfl tyX1_ok nmX1 rfl (ty := .int) rfl rfl rfl (by show 5 < 7; decide) (fun cy b => by rw [eS19]; exact wSt_1_5 cy _ (hXS15 _ _ hl0A).2 _ b) (by rw [eS19]) dX1_judgeTruths_59 ?_
        have hWS19 : wkWF S19 := by rw [eS19]; exact hWS15
        have hXS19 : wkExt S15 S19 := by rw [eS19]; exact wkExt.rf
        obtain ⟨x20, ex20, h⟩ := wkLt_some h
        refine wk_iinc C (lv' := [some (.ref l0A), some (.ref l1A), some (.ref l2A), some (.int x20)]) dX1_judgeTruths_62 rfl (by rw [ex20]; rfl) (by decide) rfl ?_
        refine wk_goto C (tgt := 38) dX1_judgeTruths_65 (by decide) ?_
        exact wk_forget (lv' := [some (.ref l0A), some (.ref l1A), some (.ref l2A), some (.int x20)]) (wkLs.le ⟨rfl, rfl, rfl, rfl, trivial⟩) (ih _ _ _ _ _ hWS19 (wkExt.tr (wkExt.tr hE hXS15) hXS19) (hXS19 _ _ (hXS15 _ _ hl0A)) (hXS19 _ _ (hXS15 _ _ hl1A)) (hXS19 _ _ (hXS15 _ _ hl2A)) h)
set_option maxHeartbeats 4000000 in
set_option maxRecDepth 100000 in
theorem tX1_judgeTruths {l : Launch} {g : wkG} {F : Nat}  {S : wPS} {l0A : Nat} {l1A : Nat} {l2A : Nat} {Φ : (Int32 → wPS → Prop)} (hW : wkWF S) (hl0A : wkIs S l0A 1) (hl1A : wkIs S l1A 3) (hl2A : wkIs S l2A 9) (h : rX1_judgeTruths F l0A l1A l2A S Φ) : wkMet l g yX1_judgeTruths wvX1_judgeTruths 3 0 0 [.ref l0A, .ref l1A, .ref l2A] S (fun v' S'' => ∃ v : Int32, v' = some (.int v) ∧ Φ v S'' ∧ wkWF S'' ∧ wkExt S S'') := by
  refine wkMet_of (ret := (some .int)) (by decide) rfl (Nat.le_of_ble_eq_true rfl) (fun X hg C hR E => ?_)
  subst hg
  have hE : wkExt S S := wkExt.rf
  have hd : 3 ≤ 3 := Nat.le_refl _
  show wkGo l X 4 0 0 0 S [some (.ref l0A), some (.ref l1A), some (.ref l2A), none] []
  have ih := tX1_judgeTruths_go (F := F) C hR hd E F
  have h : rX1_judgeTruths_s F (rX1_judgeTruths_go F F) l0A l1A l2A S Φ := h
  unfold rX1_judgeTruths_s at h
  refine wk_aload_n C dX1_judgeTruths_0 rfl rfl ?_
  refine wk_get C (v := .int (gRow_count S l2A)) huX1_judgeTruths_9 hl2A.1 (fun cy => wAt_9 cy _ hl2A.2) rfl 1 (by decide) (List.mem_of_getElem? (i := 15) rfl) rfl rfl dX1_judgeTruths_1 ?_
  refine wk_aload_n C dX1_judgeTruths_4 rfl rfl ?_
  refine wk_get C (v := .int (gEntry_size S l1A)) huX1_judgeTruths_3 hl1A.1 (fun cy => wAt_3 cy _ hl1A.2) rfl 1 (by decide) (List.mem_of_getElem? (i := 16) rfl) rfl rfl dX1_judgeTruths_5 ?_
  refine wk_icmp_ne C (tgt := 21) dX1_judgeTruths_8 (by decide) (fun c21 => ?_) (fun c21 => ?_)
  · rw [if_neg c21] at h
    refine wk_iconst C (v := 1) dX1_judgeTruths_21 (by decide) ?_
    exact E _ _ _ _ _ _ (Nat.le_refl 0) (Nat.le_refl 0) dX1_judgeTruths_22 ⟨(1 : Int32), rfl, h, hW, hE⟩
  · rw [if_pos c21] at h
    refine wk_aload_n C dX1_judgeTruths_11 rfl rfl ?_
    refine wk_iconst C (v := 0) dX1_judgeTruths_12 (by decide) ?_
    refine wk_iconst C (v := 0) dX1_judgeTruths_13 (by decide) ?_
    refine wk_iconst C (v := 1) dX1_judgeTruths_14 (by decide) ?_
    refine wk_callV C hR (As := [.int (0 : Int32), .int (0 : Int32), .int (1 : Int32)]) (cnt := 3) (tX9_liesWithin (l := l) hW hl2A h) rfl (wkGoodV (List.mem_of_getElem? (i := 17) rfl) (List.mem_of_getElem? (i := 18) rfl) (List.mem_of_getElem? (i := 19) rfl) (List.mem_of_getElem? (i := 14) rfl) hbX1_judgeTruths_X9_liesWithin gdX9_liesWithin) (Nat.le_trans (by decide : 0 + 1 ≤ 3) hd) (by decide) hl2A.1 (fun cy => wAt_9 cy _ hl2A.2) rfl ⟨by decide, by decide, by decide +kernel⟩ rfl rfl (Nat.le_of_ble_eq_true rfl) (Nat.le_refl 0) (Nat.le_refl 0) dX1_judgeTruths_15 (fun v' S23 hp => ?_)
    obtain ⟨v22, rfl, h, hWS23, hXS23⟩ := hp
    refine wk_if_ne C (tgt := 23) dX1_judgeTruths_18 (by decide) (fun c27 => ?_) (fun c27 => ?_)
    · rw [if_neg c27] at h
      refine wk_aload_n C dX1_judgeTruths_23 rfl rfl ?_
      refine wk_aload_n C dX1_judgeTruths_24 rfl rfl ?_
      refine wk_get C (v := .int (gEntry_size S23 l1A)) huX1_judgeTruths_3 (hXS23 _ _ hl1A).1 (fun cy => wAt_3 cy _ (hXS23 _ _ hl1A).2) rfl 1 (by decide) (List.mem_of_getElem? (i := 16) rfl) rfl rfl dX1_judgeTruths_25 ?_
      obtain ⟨S28, eS28, h⟩ := wkLt_some h
      refine wk_put C (S' := S28) huX1_judgeTruths_1 (hXS23 _ _ hl0A).1 (fun cy => wAt_1 cy _ (hXS23 _ _ hl0A).2) rfl 4 (by decide) (List.mem_of_getElem? (i := 1) rfl) rfl tyX1_ok nmX1 rfl (ty := .int) rfl rfl rfl (by show 4 < 7; decide) (fun cy b => by rw [eS28]; exact wSt_1_4 cy _ (hXS23 _ _ hl0A).2 _ b) (by rw [eS28]) dX1_judgeTruths_28 ?_
      have hWS28 : wkWF S28 := by rw [eS28]; exact hWS23
      have hXS28 : wkExt S23 S28 := by rw [eS28]; exact wkExt.rf
      refine wk_aload_n C dX1_judgeTruths_31 rfl rfl ?_
      refine wk_iconst C (v := 0) dX1_judgeTruths_32 (by decide) ?_
      obtain ⟨S29, eS29, h⟩ := wkLt_some h
      refine wk_put C (S' := S29) huX1_judgeTruths_1 (hXS28 _ _ (hXS23 _ _ hl0A)).1 (fun cy => wAt_1 cy _ (hXS28 _ _ (hXS23 _ _ hl0A)).2) rfl 5 (by decide) (List.mem_of_getElem? (i := 2) rfl) rfl tyX1_ok nmX1 rfl (ty := .int) rfl rfl rfl (by show 5 < 7; decide) (fun cy b => by rw [eS29]; exact wSt_1_5 cy _ (hXS28 _ _ (hXS23 _ _ hl0A)).2 _ b) (by rw [eS29]) dX1_judgeTruths_33 ?_
      have hWS29 : wkWF S29 := by rw [eS29]; exact hWS28
      have hXS29 : wkExt S28 S29 := by rw [eS29]; exact wkExt.rf
      refine wk_iconst C (v := 0) dX1_judgeTruths_36 (by decide) ?_
      refine wk_istore_n C (lv' := [some (.ref l0A), some (.ref l1A), some (.ref l2A), some (.int (0 : Int32))]) dX1_judgeTruths_37 rfl (by decide) rfl ?_
      exact wk_forget (lv' := [some (.ref l0A), some (.ref l1A), some (.ref l2A), some (.int (0 : Int32))]) (wkLs.le ⟨rfl, rfl, rfl, rfl, trivial⟩) (ih _ _ _ _ _ hWS29 (wkExt.tr (wkExt.tr (wkExt.tr hE hXS23) hXS28) hXS29) (hXS29 _ _ (hXS28 _ _ (hXS23 _ _ hl0A))) (hXS29 _ _ (hXS28 _ _ (hXS23 _ _ hl1A))) (hXS29 _ _ (hXS28 _ _ (hXS23 _ _ hl2A))) h)
    · rw [if_pos c27] at h
      refine wk_iconst C (v := 1) dX1_judgeTruths_21 (by decide) ?_
      exact E _ _ _ _ _ _ (Nat.le_refl 0) (Nat.le_refl 0) dX1_judgeTruths_22 ⟨(1 : Int32), rfl, h, hWS23, (wkExt.tr hE hXS23)⟩
def wvX1_judgeTree : List Cond := .code yX1_judgeTree cX1_judgeTree 5 (some .int) :: (([.fieldLink RX1 118 "Witnessworks$Row" "count" "I", .fieldLink RX1 88 "Witnessworks$Clauses" "isAtEnd" "Z", .fieldLink RX1 44 "Witnessworks$Clauses" "depth" "I", .fieldLink RX1 18 "Witnessworks$Entry" "size" "I", .methodLink RX1 125 yX9_at, .instanceMethod yX9_at, .selects RX9 yX9_at yX9_at, .initialized RX9, .methodLink RX1 127 yX1_isLeaf, .instanceMethod yX1_isLeaf, .selects RX1 yX1_isLeaf yX1_isLeaf, .initialized RX1, .methodLink RX1 108 yX1_goBack, .instanceMethod yX1_goBack, .selects RX1 yX1_goBack yX1_goBack, .fieldLink RX1 73 "Witnessworks$Entry" "itemCount" "I", .methodLink RX1 121 yX9_liesWithin, .instanceMethod yX9_liesWithin, .selects RX9 yX9_liesWithin yX9_liesWithin, .methodLink RX1 98 yX1_begin, .instanceMethod yX1_begin, .selects RX1 yX1_begin yX1_begin] : List Cond) ++ ((wsX90 ++ (wsX10 ++ (wsX30))) ++ (wvX9_at ++ (wvX1_isLeaf ++ (wvX1_goBack ++ (wvX9_liesWithin ++ (wvX1_begin)))))))
theorem huX1_judgeTree_9 : ∀ w ∈ u_ws RX9 TX9 2, w ∈ wvX1_judgeTree := fun w h => List.mem_cons_of_mem _ (List.mem_append_right _ (List.mem_append_left _ (List.mem_append_left _ h)))
theorem huX1_judgeTree_1 : ∀ w ∈ u_ws RX1 TX1 7, w ∈ wvX1_judgeTree := fun w h => List.mem_cons_of_mem _ (List.mem_append_right _ (List.mem_append_left _ (List.mem_append_right _ (List.mem_append_left _ h))))
theorem huX1_judgeTree_3 : ∀ w ∈ u_ws RX3 TX3 17, w ∈ wvX1_judgeTree := fun w h => List.mem_cons_of_mem _ (List.mem_append_right _ (List.mem_append_left _ (List.mem_append_right _ (List.mem_append_right _ h))))
theorem hbX1_judgeTree_X9_at : ∀ w ∈ wvX9_at, w ∈ wvX1_judgeTree := fun w h => List.mem_cons_of_mem _ (List.mem_append_right _ (List.mem_append_right _ (List.mem_append_left _ h)))
theorem hbX1_judgeTree_X1_isLeaf : ∀ w ∈ wvX1_isLeaf, w ∈ wvX1_judgeTree := fun w h => List.mem_cons_of_mem _ (List.mem_append_right _ (List.mem_append_right _ (List.mem_append_right _ (List.mem_append_left _ h))))
theorem hbX1_judgeTree_X1_goBack : ∀ w ∈ wvX1_goBack, w ∈ wvX1_judgeTree := fun w h => List.mem_cons_of_mem _ (List.mem_append_right _ (List.mem_append_right _ (List.mem_append_right _ (List.mem_append_right _ (List.mem_append_left _ h)))))
theorem hbX1_judgeTree_X9_liesWithin : ∀ w ∈ wvX9_liesWithin, w ∈ wvX1_judgeTree := fun w h => List.mem_cons_of_mem _ (List.mem_append_right _ (List.mem_append_right _ (List.mem_append_right _ (List.mem_append_right _ (List.mem_append_right _ (List.mem_append_left _ h))))))
theorem hbX1_judgeTree_X1_begin : ∀ w ∈ wvX1_begin, w ∈ wvX1_judgeTree := fun w h => List.mem_cons_of_mem _ (List.mem_append_right _ (List.mem_append_right _ (List.mem_append_right _ (List.mem_append_right _ (List.mem_append_right _ (List.mem_append_right _ h))))))
theorem gdX1_judgeTree : ∀ w ∈ wvX1_judgeTree, wkGd w := wkGdC rfl (wkGdA (wkGdL (by decide +kernel)) (wkGdA (wkGdA gdX9 (wkGdA gdX1 gdX3)) (wkGdA gdX9_at (wkGdA gdX1_isLeaf (wkGdA gdX1_goBack (wkGdA gdX9_liesWithin gdX1_begin))))))
def rX1_judgeTree_b0 (F : Nat) (rec : Nat → Nat → Nat → Nat → Int32 → Int32 → wPS → (Int32 → wPS → Prop) → Prop) (l0A : Nat) (l1A : Nat) (l2A : Nat) (l3I : Int32) (l4I : Int32) (S : wPS) (Φ : (Int32 → wPS → Prop)) : Prop :=
  if (128 : Int32) ≤ l4I then (if l3I = (gRow_count S l2A) then (Φ (0 : Int32) S) else (Φ (3 : Int32) S)) else (if (gClauses_isAtEnd S l0A) = 0 then (if (gRow_count S l2A) ≤ l3I then (if (gEntry_size S l1A) ≤ (gClauses_depth S l0A) then (Φ (2 : Int32) S) else (wkLt (wu_Clauses_depth S l0A ((gClauses_depth S l0A) + (1 : Int32))) fun S7 => wkLt (l4I + (1 : Int32)) fun x8 => rec 0 l0A l1A l2A l3I x8 S7 Φ)) else (rX9_at F l2A l3I S fun v9 S10 => rX1_isLeaf F l0A l1A v9 S10 fun v14 S15 => if v14 = 0 then (if (gEntry_size S15 l1A) ≤ (gClauses_depth S15 l0A) then (Φ (2 : Int32) S15) else (wkLt (wu_Clauses_depth S15 l0A ((gClauses_depth S15 l0A) + (1 : Int32))) fun S21 => wkLt (l4I + (1 : Int32)) fun x22 => rec 0 l0A l1A l2A l3I x22 S21 Φ)) else (wkLt (l3I + (1 : Int32)) fun x23 => rX1_goBack F l0A S15 fun v24 S25 => wkLt (l4I + (1 : Int32)) fun x29 => rec 0 l0A l1A l2A x23 x29 S25 Φ))) else (if l3I = (gRow_count S l2A) then (Φ (0 : Int32) S) else (Φ (3 : Int32) S)))
def rX1_judgeTree_go (F : Nat) : Nat → Nat → Nat → Nat → Nat → Int32 → Int32 → wPS → (Int32 → wPS → Prop) → Prop
  | 0, _, _, _, _, _, _, _, _ => False
  | k' + 1, lab, l0A, l1A, l2A, l3I, l4I, S, Φ => if lab = 0 then rX1_judgeTree_b0 F (rX1_judgeTree_go F k') l0A l1A l2A l3I l4I S Φ else False
def rX1_judgeTree_s (F : Nat) (rec : Nat → Nat → Nat → Nat → Int32 → Int32 → wPS → (Int32 → wPS → Prop) → Prop) (l0A : Nat) (l1A : Nat) (l2A : Nat) (S : wPS) (Φ : (Int32 → wPS → Prop)) : Prop :=
  rX9_liesWithin F l2A (0 : Int32) (-1 : Int32) ((gEntry_itemCount S l1A) - (1 : Int32)) S fun v30 S31 => if v30 = 0 then (Φ (1 : Int32) S31) else (rX1_begin F l0A S31 fun v36 S37 => rec 0 l0A l1A l2A (0 : Int32) (0 : Int32) S37 Φ)
def rX1_judgeTree (F : Nat) (l0A : Nat) (l1A : Nat) (l2A : Nat) (S : wPS) (Φ : (Int32 → wPS → Prop)) : Prop := rX1_judgeTree_s F (rX1_judgeTree_go F F) l0A l1A l2A S Φ
set_option maxHeartbeats 4000000 in
set_option maxRecDepth 100000 in
theorem tX1_judgeTree_go {l : Launch} {X : wkX} {d F : Nat} {S0 : wPS} {Φ : (Int32 → wPS → Prop)} (C : wkC X cX1_judgeTree RX1 5 wvX1_judgeTree) (hR : wkRm X d 0 0) (hd : 3 ≤ d) (E : wkEnd l X cX1_judgeTree 5 (some .int) 0 0 (fun v' S'' => ∃ v : Int32, v' = some (.int v) ∧ Φ v S'' ∧ wkWF S'' ∧ wkExt S0 S'')) : ∀ k' : Nat, (∀ (l0A : Nat) (l1A : Nat) (l2A : Nat) (l3I : Int32) (l4I : Int32) (S : wPS), wkWF S → wkExt S0 S → wkIs S l0A 1 → wkIs S l1A 3 → wkIs S l2A 9 → rX1_judgeTree_go F k' 0 l0A l1A l2A l3I l4I S Φ → wkGo l X 5 0 0 26 S [some (.ref l0A), some (.ref l1A), some (.ref l2A), some (.int l3I), some (.int l4I)] []) := by
  intro k'
  induction k' with
  | zero => exact fun l0A l1A l2A l3I l4I S hW hE hl0A hl1A hl2A h => h.elim
  | succ k' ih =>
    · intro l0A l1A l2A l3I l4I S hW hE hl0A hl1A hl2A h
      have h : rX1_judgeTree_b0 F (rX1_judgeTree_go F k') l0A l1A l2A l3I l4I S Φ := by
        rw [rX1_judgeTree_go, if_pos (rfl : (0 : Nat) = 0)] at h
        exact h
      unfold rX1_judgeTree_b0 at h
      refine wk_iload C dX1_judgeTree_26 rfl ?_
      refine wk_sipush C (v := 128) dX1_judgeTree_28 (by decide) ?_
      refine wk_icmp_ge C (tgt := 104) dX1_judgeTree_31 (by decide) (fun c1 => ?_) (fun c1 => ?_)
      · rw [if_pos c1] at h
        refine wk_iload_n C dX1_judgeTree_104 rfl rfl ?_
        refine wk_aload_n C dX1_judgeTree_105 rfl rfl ?_
        refine wk_get C (v := .int (gRow_count S l2A)) huX1_judgeTree_9 hl2A.1 (fun cy => wAt_9 cy _ hl2A.2) rfl 1 (by decide) (List.mem_of_getElem? (i := 1) rfl) rfl rfl dX1_judgeTree_106 ?_
        refine wk_icmp_ne C (tgt := 116) dX1_judgeTree_109 (by decide) (fun c2 => ?_) (fun c2 => ?_)
        · rw [if_neg c2] at h
          refine wk_iconst C (v := 3) dX1_judgeTree_116 (by decide) ?_
          exact E _ _ _ _ _ _ (Nat.le_refl 0) (Nat.le_refl 0) dX1_judgeTree_117 ⟨(3 : Int32), rfl, h, hW, hE⟩
        · rw [if_pos c2] at h
          refine wk_iconst C (v := 0) dX1_judgeTree_112 (by decide) ?_
          refine wk_goto C (tgt := 117) dX1_judgeTree_113 (by decide) ?_
          exact E _ _ _ _ _ _ (Nat.le_refl 0) (Nat.le_refl 0) dX1_judgeTree_117 ⟨(0 : Int32), rfl, h, hW, hE⟩
      · rw [if_neg c1] at h
        refine wk_aload_n C dX1_judgeTree_34 rfl rfl ?_
        refine wk_get C (v := .int (gClauses_isAtEnd S l0A)) huX1_judgeTree_1 hl0A.1 (fun cy => wAt_1 cy _ hl0A.2) rfl 6 (by decide) (List.mem_of_getElem? (i := 2) rfl) rfl rfl dX1_judgeTree_35 ?_
        refine wk_if_ne C (tgt := 104) dX1_judgeTree_38 (by decide) (fun c3 => ?_) (fun c3 => ?_)
        · rw [if_neg c3] at h
          refine wk_iload_n C dX1_judgeTree_104 rfl rfl ?_
          refine wk_aload_n C dX1_judgeTree_105 rfl rfl ?_
          refine wk_get C (v := .int (gRow_count S l2A)) huX1_judgeTree_9 hl2A.1 (fun cy => wAt_9 cy _ hl2A.2) rfl 1 (by decide) (List.mem_of_getElem? (i := 1) rfl) rfl rfl dX1_judgeTree_106 ?_
          refine wk_icmp_ne C (tgt := 116) dX1_judgeTree_109 (by decide) (fun c4 => ?_) (fun c4 => ?_)
          · rw [if_neg c4] at h
            refine wk_iconst C (v := 3) dX1_judgeTree_116 (by decide) ?_
            exact E _ _ _ _ _ _ (Nat.le_refl 0) (Nat.le_refl 0) dX1_judgeTree_117 ⟨(3 : Int32), rfl, h, hW, hE⟩
          · rw [if_pos c4] at h
            refine wk_iconst C (v := 0) dX1_judgeTree_112 (by decide) ?_
            refine wk_goto C (tgt := 117) dX1_judgeTree_113 (by decide) ?_
            exact E _ _ _ _ _ _ (Nat.le_refl 0) (Nat.le_refl 0) dX1_judgeTree_117 ⟨(0 : Int32), rfl, h, hW, hE⟩
        · rw [if_pos c3] at h
          refine wk_iload_n C dX1_judgeTree_41 rfl rfl ?_
          refine wk_aload_n C dX1_judgeTree_42 rfl rfl ?_
          refine wk_get C (v := .int (gRow_count S l2A)) huX1_judgeTree_9 hl2A.1 (fun cy => wAt_9 cy _ hl2A.2) rfl 1 (by decide) (List.mem_of_getElem? (i := 1) rfl) rfl rfl dX1_judgeTree_43 ?_
          refine wk_icmp_ge C (tgt := 72) dX1_judgeTree_46 (by decide) (fun c5 => ?_) (fun c5 => ?_)
          · rw [if_pos c5] at h
            refine wk_aload_n C dX1_judgeTree_72 rfl rfl ?_
            refine wk_get C (v := .int (gClauses_depth S l0A)) huX1_judgeTree_1 hl0A.1 (fun cy => wAt_1 cy _ hl0A.2) rfl 4 (by decide) (List.mem_of_getElem? (i := 3) rfl) rfl rfl dX1_judgeTree_73 ?_
            refine wk_aload_n C dX1_judgeTree_76 rfl rfl ?_
            refine wk_get C (v := .int (gEntry_size S l1A)) huX1_judgeTree_3 hl1A.1 (fun cy => wAt_3 cy _ hl1A.2) rfl 1 (by decide) (List.mem_of_getElem? (i := 4) rfl) rfl rfl dX1_judgeTree_77 ?_
            refine wk_icmp_ge C (tgt := 96) dX1_judgeTree_80 (by decide) (fun c6 => ?_) (fun c6 => ?_)
            · rw [if_pos c6] at h
              refine wk_iconst C (v := 2) dX1_judgeTree_96 (by decide) ?_
              exact E _ _ _ _ _ _ (Nat.le_refl 0) (Nat.le_refl 0) dX1_judgeTree_97 ⟨(2 : Int32), rfl, h, hW, hE⟩
            · rw [if_neg c6] at h
              refine wk_aload_n C dX1_judgeTree_83 rfl rfl ?_
              refine wk_dup C dX1_judgeTree_84 rfl ?_
              refine wk_get C (v := .int (gClauses_depth S l0A)) huX1_judgeTree_1 hl0A.1 (fun cy => wAt_1 cy _ hl0A.2) rfl 4 (by decide) (List.mem_of_getElem? (i := 3) rfl) rfl rfl dX1_judgeTree_85 ?_
              refine wk_iconst C (v := 1) dX1_judgeTree_88 (by decide) ?_
              refine wk_iadd C dX1_judgeTree_89 rfl ?_
              obtain ⟨S7, eS7, h⟩ := wkLt_some h
              refine wk_put C (S' := S7) huX1_judgeTree_1 hl0A.1 (fun cy => wAt_1 cy _ hl0A.2) rfl 4 (by decide) (List.mem_of_getElem? (i := 3) rfl) rfl tyX1_ok nmX1 rfl (ty := .int) rfl rfl rfl (by show 4 < 7; decide) (fun cy b => by rw [eS7]; exact wSt_1_4 cy _ hl0A.2 _ b) (by rw [eS7]) dX1_judgeTree_90 ?_
              have hWS7 : wkWF S7 := by rw [eS7]; exact hW
              have hXS7 : wkExt S S7 := by rw [eS7]; exact wkExt.rf
              refine wk_goto C (tgt := 98) dX1_judgeTree_93 (by decide) ?_
              obtain ⟨x8, ex8, h⟩ := wkLt_some h
              refine wk_iinc C (lv' := [some (.ref l0A), some (.ref l1A), some (.ref l2A), some (.int l3I), some (.int x8)]) dX1_judgeTree_98 rfl (by rw [ex8]; rfl) (by decide) rfl ?_
              refine wk_goto C (tgt := 26) dX1_judgeTree_101 (by decide) ?_
              exact wk_forget (lv' := [some (.ref l0A), some (.ref l1A), some (.ref l2A), some (.int l3I), some (.int x8)]) (wkLs.le ⟨rfl, rfl, rfl, rfl, rfl, trivial⟩) (ih _ _ _ _ _ _ hWS7 (wkExt.tr hE hXS7) (hXS7 _ _ hl0A) (hXS7 _ _ hl1A) (hXS7 _ _ hl2A) h)
          · rw [if_neg c5] at h
            refine wk_aload_n C dX1_judgeTree_49 rfl rfl ?_
            refine wk_aload_n C dX1_judgeTree_50 rfl rfl ?_
            refine wk_aload_n C dX1_judgeTree_51 rfl rfl ?_
            refine wk_iload_n C dX1_judgeTree_52 rfl rfl ?_
            refine wk_callV C hR (As := [.int l3I]) (cnt := 1) (tX9_at (l := l) hW hl2A h) rfl (wkGoodV (List.mem_of_getElem? (i := 5) rfl) (List.mem_of_getElem? (i := 6) rfl) (List.mem_of_getElem? (i := 7) rfl) (List.mem_of_getElem? (i := 8) rfl) hbX1_judgeTree_X9_at gdX9_at) (Nat.le_trans (by decide : 0 + 1 ≤ 3) hd) (by decide) hl2A.1 (fun cy => wAt_9 cy _ hl2A.2) rfl ⟨by decide, by decide, by decide +kernel⟩ rfl rfl (Nat.le_of_ble_eq_true rfl) (Nat.le_refl 0) (Nat.le_refl 0) dX1_judgeTree_53 (fun v' S10 hp => ?_)
            obtain ⟨v9, rfl, h, hWS10, hXS10⟩ := hp
            refine wk_callV C hR (As := [.ref l1A, .int v9]) (cnt := 2) (tX1_isLeaf (l := l) hWS10 (hXS10 _ _ hl0A) (hXS10 _ _ hl1A) h) rfl (wkGoodV (List.mem_of_getElem? (i := 9) rfl) (List.mem_of_getElem? (i := 10) rfl) (List.mem_of_getElem? (i := 11) rfl) (List.mem_of_getElem? (i := 12) rfl) hbX1_judgeTree_X1_isLeaf gdX1_isLeaf) (Nat.le_trans (by decide : 2 + 1 ≤ 3) hd) (by decide) (hXS10 _ _ hl0A).1 (fun cy => wAt_1 cy _ (hXS10 _ _ hl0A).2) rfl ⟨by decide, by decide, by decide +kernel⟩ rfl rfl (Nat.le_of_ble_eq_true rfl) (Nat.le_refl 0) (Nat.le_refl 0) dX1_judgeTree_56 (fun v' S15 hp => ?_)
            obtain ⟨v14, rfl, h, hWS15, hXS15⟩ := hp
            refine wk_if_eq C (tgt := 72) dX1_judgeTree_59 (by decide) (fun c19 => ?_) (fun c19 => ?_)
            · rw [if_pos c19] at h
              refine wk_aload_n C dX1_judgeTree_72 rfl rfl ?_
              refine wk_get C (v := .int (gClauses_depth S15 l0A)) huX1_judgeTree_1 (hXS15 _ _ (hXS10 _ _ hl0A)).1 (fun cy => wAt_1 cy _ (hXS15 _ _ (hXS10 _ _ hl0A)).2) rfl 4 (by decide) (List.mem_of_getElem? (i := 3) rfl) rfl rfl dX1_judgeTree_73 ?_
              refine wk_aload_n C dX1_judgeTree_76 rfl rfl ?_
              refine wk_get C (v := .int (gEntry_size S15 l1A)) huX1_judgeTree_3 (hXS15 _ _ (hXS10 _ _ hl1A)).1 (fun cy => wAt_3 cy _ (hXS15 _ _ (hXS10 _ _ hl1A)).2) rfl 1 (by decide) (List.mem_of_getElem? (i := 4) rfl) rfl rfl dX1_judgeTree_77 ?_
              refine wk_icmp_ge C (tgt := 96) dX1_judgeTree_80 (by decide) (fun c20 => ?_) (fun c20 => ?_)
              · rw [if_pos c20] at h
                refine wk_iconst C (v := 2) dX1_judgeTree_96 (by decide) ?_
                exact E _ _ _ _ _ _ (Nat.le_refl 0) (Nat.le_refl 0) dX1_judgeTree_97 ⟨(2 : Int32), rfl, h, hWS15, (wkExt.tr (wkExt.tr hE hXS10) hXS15)⟩
              · rw [if_neg c20] at h
                refine wk_aload_n C dX1_judgeTree_83 rfl rfl ?_
                refine wk_dup C dX1_judgeTree_84 rfl ?_
                refine wk_get C (v := .int (gClauses_depth S15 l0A)) huX1_judgeTree_1 (hXS15 _ _ (hXS10 _ _ hl0A)).1 (fun cy => wAt_1 cy _ (hXS15 _ _ (hXS10 _ _ hl0A)).2) rfl 4 (by decide) (List.mem_of_getElem? (i := 3) rfl) rfl rfl dX1_judgeTree_85 ?_
                refine wk_iconst C (v := 1) dX1_judgeTree_88 (by decide) ?_
                refine wk_iadd C dX1_judgeTree_89 rfl ?_
                obtain ⟨S21, eS21, h⟩ := wkLt_some h
                refine wk_put C (S' := S21) huX1_judgeTree_1 (hXS15 _ _ (hXS10 _ _ hl0A)).1 (fun cy => wAt_1 cy _ (hXS15 _ _ (hXS10 _ _ hl0A)).2) rfl 4 (by decide) (List.mem_of_getElem? (i := 3) rfl) rfl tyX1_ok nmX1 rfl (ty := .int) rfl rfl rfl (by show 4 < 7; decide) (fun cy b => by rw [eS21]; exact wSt_1_4 cy _ (hXS15 _ _ (hXS10 _ _ hl0A)).2 _ b) (by rw [eS21]) dX1_judgeTree_90 ?_
                have hWS21 : wkWF S21 := by rw [eS21]; exact hWS15
                have hXS21 : wkExt S15 S21 := by rw [eS21]; exact wkExt.rf
                refine wk_goto C (tgt := 98) dX1_judgeTree_93 (by decide) ?_
                obtain ⟨x22, ex22, h⟩ := wkLt_some h
                refine wk_iinc C (lv' := [some (.ref l0A), some (.ref l1A), some (.ref l2A), some (.int l3I), some (.int x22)]) dX1_judgeTree_98 rfl (by rw [ex22]; rfl) (by decide) rfl ?_
                refine wk_goto C (tgt := 26) dX1_judgeTree_101 (by decide) ?_
                exact wk_forget (lv' := [some (.ref l0A), some (.ref l1A), some (.ref l2A), some (.int l3I), some (.int x22)]) (wkLs.le ⟨rfl, rfl, rfl, rfl, rfl, trivial⟩) (ih _ _ _ _ _ _ hWS21 (wkExt.tr (wkExt.tr (wkExt.tr hE hXS10) hXS15) hXS21) (hXS21 _ _ (hXS15 _ _ (hXS10 _ _ hl0A))) (hXS21 _ _ (hXS15 _ _ (hXS10 _ _ hl1A))) (hXS21 _ _ (hXS15 _ _ (hXS10 _ _ hl2A))) h)
            · rw [if_neg c19] at h
              obtain ⟨x23, ex23, h⟩ := wkLt_some h
              refine wk_iinc C (lv' := [some (.ref l0A), some (.ref l1A), some (.ref l2A), some (.int x23), some (.int l4I)]) dX1_judgeTree_62 rfl (by rw [ex23]; rfl) (by decide) rfl ?_
              refine wk_aload_n C dX1_judgeTree_65 rfl rfl ?_
              refine wk_callV C hR (As := []) (cnt := 0) (tX1_goBack (l := l) hWS15 (hXS15 _ _ (hXS10 _ _ hl0A)) h) rfl (wkGoodV (List.mem_of_getElem? (i := 13) rfl) (List.mem_of_getElem? (i := 14) rfl) (List.mem_of_getElem? (i := 15) rfl) (List.mem_of_getElem? (i := 12) rfl) hbX1_judgeTree_X1_goBack gdX1_goBack) (Nat.le_trans (by decide : 2 + 1 ≤ 3) hd) (by decide) (hXS15 _ _ (hXS10 _ _ hl0A)).1 (fun cy => wAt_1 cy _ (hXS15 _ _ (hXS10 _ _ hl0A)).2) rfl ⟨by decide, by decide, by decide +kernel⟩ rfl rfl (Nat.le_of_ble_eq_true rfl) (Nat.le_refl 0) (Nat.le_refl 0) dX1_judgeTree_66 (fun v' S25 hp => ?_)
              obtain ⟨v24, rfl, h, hWS25, hXS25⟩ := hp
              refine wk_goto C (tgt := 98) dX1_judgeTree_69 (by decide) ?_
              obtain ⟨x29, ex29, h⟩ := wkLt_some h
              refine wk_iinc C (lv' := [some (.ref l0A), some (.ref l1A), some (.ref l2A), some (.int x23), some (.int x29)]) dX1_judgeTree_98 rfl (by rw [ex29]; rfl) (by decide) rfl ?_
              refine wk_goto C (tgt := 26) dX1_judgeTree_101 (by decide) ?_
              exact wk_forget (lv' := [some (.ref l0A), some (.ref l1A), some (.ref l2A), some (.int x23), some (.int x29)]) (wkLs.le ⟨rfl, rfl, rfl, rfl, rfl, trivial⟩) (ih _ _ _ _ _ _ hWS25 (wkExt.tr (wkExt.tr (wkExt.tr hE hXS10) hXS15) hXS25) (hXS25 _ _ (hXS15 _ _ (hXS10 _ _ hl0A))) (hXS25 _ _ (hXS15 _ _ (hXS10 _ _ hl1A))) (hXS25 _ _ (hXS15 _ _ (hXS10 _ _ hl2A))) h)
set_option maxHeartbeats 4000000 in
set_option maxRecDepth 100000 in
theorem tX1_judgeTree {l : Launch} {g : wkG} {F : Nat}  {S : wPS} {l0A : Nat} {l1A : Nat} {l2A : Nat} {Φ : (Int32 → wPS → Prop)} (hW : wkWF S) (hl0A : wkIs S l0A 1) (hl1A : wkIs S l1A 3) (hl2A : wkIs S l2A 9) (h : rX1_judgeTree F l0A l1A l2A S Φ) : wkMet l g yX1_judgeTree wvX1_judgeTree 3 0 0 [.ref l0A, .ref l1A, .ref l2A] S (fun v' S'' => ∃ v : Int32, v' = some (.int v) ∧ Φ v S'' ∧ wkWF S'' ∧ wkExt S S'') := by
  refine wkMet_of (ret := (some .int)) (by decide) rfl (Nat.le_of_ble_eq_true rfl) (fun X hg C hR E => ?_)
  subst hg
  have hE : wkExt S S := wkExt.rf
  have hd : 3 ≤ 3 := Nat.le_refl _
  show wkGo l X 5 0 0 0 S [some (.ref l0A), some (.ref l1A), some (.ref l2A), none, none] []
  have ih := tX1_judgeTree_go (F := F) C hR hd E F
  have h : rX1_judgeTree_s F (rX1_judgeTree_go F F) l0A l1A l2A S Φ := h
  unfold rX1_judgeTree_s at h
  refine wk_aload_n C dX1_judgeTree_0 rfl rfl ?_
  refine wk_iconst C (v := 0) dX1_judgeTree_1 (by decide) ?_
  refine wk_iconst C (v := (-1)) dX1_judgeTree_2 (by decide) ?_
  refine wk_aload_n C dX1_judgeTree_3 rfl rfl ?_
  refine wk_get C (v := .int (gEntry_itemCount S l1A)) huX1_judgeTree_3 hl1A.1 (fun cy => wAt_3 cy _ hl1A.2) rfl 6 (by decide) (List.mem_of_getElem? (i := 16) rfl) rfl rfl dX1_judgeTree_4 ?_
  refine wk_iconst C (v := 1) dX1_judgeTree_7 (by decide) ?_
  refine wk_isub C dX1_judgeTree_8 rfl ?_
  refine wk_callV C hR (As := [.int (0 : Int32), .int (-1 : Int32), .int ((gEntry_itemCount S l1A) - (1 : Int32))]) (cnt := 3) (tX9_liesWithin (l := l) hW hl2A h) rfl (wkGoodV (List.mem_of_getElem? (i := 17) rfl) (List.mem_of_getElem? (i := 18) rfl) (List.mem_of_getElem? (i := 19) rfl) (List.mem_of_getElem? (i := 8) rfl) hbX1_judgeTree_X9_liesWithin gdX9_liesWithin) (Nat.le_trans (by decide : 0 + 1 ≤ 3) hd) (by decide) hl2A.1 (fun cy => wAt_9 cy _ hl2A.2) rfl ⟨by decide, by decide, by decide +kernel⟩ rfl rfl (Nat.le_of_ble_eq_true rfl) (Nat.le_refl 0) (Nat.le_refl 0) dX1_judgeTree_9 (fun v' S31 hp => ?_)
  obtain ⟨v30, rfl, h, hWS31, hXS31⟩ := hp
  refine wk_if_ne C (tgt := 17) dX1_judgeTree_12 (by decide) (fun c35 => ?_) (fun c35 => ?_)
  · rw [if_neg c35] at h
    refine wk_aload_n C dX1_judgeTree_17 rfl rfl ?_
    refine wk_callV C hR (As := []) (cnt := 0) (tX1_begin (l := l) hWS31 (hXS31 _ _ hl0A) h) rfl (wkGoodV (List.mem_of_getElem? (i := 20) rfl) (List.mem_of_getElem? (i := 21) rfl) (List.mem_of_getElem? (i := 22) rfl) (List.mem_of_getElem? (i := 12) rfl) hbX1_judgeTree_X1_begin gdX1_begin) (Nat.le_trans (by decide : 0 + 1 ≤ 3) hd) (by decide) (hXS31 _ _ hl0A).1 (fun cy => wAt_1 cy _ (hXS31 _ _ hl0A).2) rfl ⟨by decide, by decide, by decide +kernel⟩ rfl rfl (Nat.le_of_ble_eq_true rfl) (Nat.le_refl 0) (Nat.le_refl 0) dX1_judgeTree_18 (fun v' S37 hp => ?_)
    obtain ⟨v36, rfl, h, hWS37, hXS37⟩ := hp
    refine wk_iconst C (v := 0) dX1_judgeTree_21 (by decide) ?_
    refine wk_istore_n C (lv' := [some (.ref l0A), some (.ref l1A), some (.ref l2A), some (.int (0 : Int32)), none]) dX1_judgeTree_22 rfl (by decide) rfl ?_
    refine wk_iconst C (v := 0) dX1_judgeTree_23 (by decide) ?_
    refine wk_istore C (lv' := [some (.ref l0A), some (.ref l1A), some (.ref l2A), some (.int (0 : Int32)), some (.int (0 : Int32))]) dX1_judgeTree_24 (by decide) rfl ?_
    exact wk_forget (lv' := [some (.ref l0A), some (.ref l1A), some (.ref l2A), some (.int (0 : Int32)), some (.int (0 : Int32))]) (wkLs.le ⟨rfl, rfl, rfl, rfl, rfl, trivial⟩) (ih _ _ _ _ _ _ hWS37 (wkExt.tr (wkExt.tr hE hXS31) hXS37) (hXS37 _ _ (hXS31 _ _ hl0A)) (hXS37 _ _ (hXS31 _ _ hl1A)) (hXS37 _ _ (hXS31 _ _ hl2A)) h)
  · rw [if_pos c35] at h
    refine wk_iconst C (v := 1) dX1_judgeTree_15 (by decide) ?_
    exact E _ _ _ _ _ _ (Nat.le_refl 0) (Nat.le_refl 0) dX1_judgeTree_16 ⟨(1 : Int32), rfl, h, hWS31, (wkExt.tr hE hXS31)⟩
