def wvX2_areTwoHalves : List Cond := .code yX2_areTwoHalves cX2_areTwoHalves 5 (some .boolean) :: (([.fieldLink RX2 62 "Witnessworks$Drawings" "nodeCount" "I", .fieldLink RX2 31 "Witnessworks$Drawings" "ways" "[I", .methodLink RX2 100 yJ6_bitCount_0f7a4, .static yJ6_bitCount_0f7a4, .initialized RJ6, .static yX11_has, .initialized RX11] : List Cond) ++ ((wsX20) ++ (wvJ6_bitCount_0f7a4 ++ (wvX11_has))))
theorem huX2_areTwoHalves_2 : ∀ w ∈ u_ws RX2 TX2 10, w ∈ wvX2_areTwoHalves := fun w h => List.mem_cons_of_mem _ (List.mem_append_right _ (List.mem_append_left _ h))
theorem hbX2_areTwoHalves_J6_bitCount_0f7a4 : ∀ w ∈ wvJ6_bitCount_0f7a4, w ∈ wvX2_areTwoHalves := fun w h => List.mem_cons_of_mem _ (List.mem_append_right _ (List.mem_append_right _ (List.mem_append_left _ h)))
theorem hbX2_areTwoHalves_X11_has : ∀ w ∈ wvX11_has, w ∈ wvX2_areTwoHalves := fun w h => List.mem_cons_of_mem _ (List.mem_append_right _ (List.mem_append_right _ (List.mem_append_right _ h)))
theorem gdX2_areTwoHalves : ∀ w ∈ wvX2_areTwoHalves, wkGd w := wkGdC rfl (wkGdA (wkGdL (by decide +kernel)) (wkGdA gdX2 (wkGdA gdJ6_bitCount_0f7a4 gdX11_has)))
def rX2_areTwoHalves_b0 (F : Nat) (rec : Nat → Nat → Int32 → Int32 → Int32 → wPS → (Int32 → wPS → Prop) → Prop) (l0A : Nat) (l1I : Int32) (l2I : Int32) (l3I : Int32) (S : wPS) (Φ : (Int32 → wPS → Prop)) : Prop :=
  if (gDrawings_nodeCount S l0A) ≤ l3I then (rec 1 l0A l1I l2I (0 : Int32) S Φ) else (¬ (l3I < 0 ∨ S.len (wkAd (gDrawings_ways S l0A)) ≤ (l3I).toNatClampNeg) ∧ if (S.rI (wkAd (gDrawings_ways S l0A)) (l3I).toNatClampNeg) = 0 then (wkLt (l3I + (1 : Int32)) fun x4 => rec 0 l0A l1I l2I x4 S Φ) else (wkLt ((l2I ||| ((1 : Int32) <<< (l3I &&& 31)))) fun x5 => ¬ (l3I < 0 ∨ S.len (wkAd (gDrawings_ways S l0A)) ≤ (l3I).toNatClampNeg) ∧ wkLt ((S.rI (wkAd (gDrawings_ways S l0A)) (l3I).toNatClampNeg)) fun x7 => wkLt (l3I + (1 : Int32)) fun x8 => rec 0 l0A x7 x5 x8 S Φ))
def rX2_areTwoHalves_b1 (F : Nat) (rec : Nat → Nat → Int32 → Int32 → Int32 → wPS → (Int32 → wPS → Prop) → Prop) (l0A : Nat) (l1I : Int32) (l2I : Int32) (l3I : Int32) (S : wPS) (Φ : (Int32 → wPS → Prop)) : Prop :=
  if (gDrawings_nodeCount S l0A) ≤ l3I then (rJ6_bitCount_0f7a4 F l1I S fun v10 S11 => if v10 = (3 : Int32) then (Φ (1 : Int32) S11) else (Φ (0 : Int32) S11)) else (rX11_has F l1I l3I S fun v16 S17 => if v16 = 0 then (wkLt ((l2I &&& (l1I ^^^ (-1 : Int32)))) fun x22 => ¬ (l3I < 0 ∨ S17.len (wkAd (gDrawings_ways S17 l0A)) ≤ (l3I).toNatClampNeg) ∧ if ((S17.rI (wkAd (gDrawings_ways S17 l0A)) (l3I).toNatClampNeg) &&& x22) = 0 then (wkLt (l3I + (1 : Int32)) fun x25 => rec 1 l0A l1I l2I x25 S17 Φ) else (Φ (0 : Int32) S17)) else (¬ (l3I < 0 ∨ S17.len (wkAd (gDrawings_ways S17 l0A)) ≤ (l3I).toNatClampNeg) ∧ if ((S17.rI (wkAd (gDrawings_ways S17 l0A)) (l3I).toNatClampNeg) &&& l1I) = 0 then (wkLt (l3I + (1 : Int32)) fun x28 => rec 1 l0A l1I l2I x28 S17 Φ) else (Φ (0 : Int32) S17)))
def rX2_areTwoHalves_go (F : Nat) : Nat → Nat → Nat → Int32 → Int32 → Int32 → wPS → (Int32 → wPS → Prop) → Prop
  | 0, _, _, _, _, _, _, _ => False
  | k' + 1, lab, l0A, l1I, l2I, l3I, S, Φ => if lab = 0 then rX2_areTwoHalves_b0 F (rX2_areTwoHalves_go F k') l0A l1I l2I l3I S Φ else if lab = 1 then rX2_areTwoHalves_b1 F (rX2_areTwoHalves_go F k') l0A l1I l2I l3I S Φ else False
def rX2_areTwoHalves_s (F : Nat) (rec : Nat → Nat → Int32 → Int32 → Int32 → wPS → (Int32 → wPS → Prop) → Prop) (l0A : Nat) (S : wPS) (Φ : (Int32 → wPS → Prop)) : Prop :=
  rec 0 l0A (0 : Int32) (0 : Int32) (0 : Int32) S Φ
def rX2_areTwoHalves (F : Nat) (l0A : Nat) (S : wPS) (Φ : (Int32 → wPS → Prop)) : Prop := rX2_areTwoHalves_s F (rX2_areTwoHalves_go F F) l0A S Φ
set_option maxHeartbeats 4000000 in
set_option maxRecDepth 100000 in
theorem tX2_areTwoHalves_go {l : Launch} {X : wkX} {d F : Nat} {S0 : wPS} {Φ : (Int32 → wPS → Prop)} (C : wkC X cX2_areTwoHalves RX2 5 wvX2_areTwoHalves) (hR : wkRm X d 0 0) (hd : 1 ≤ d) (E : wkEnd l X cX2_areTwoHalves 5 (some .boolean) 0 0 (fun v' S'' => ∃ v : Int32, v' = some (.int v) ∧ Φ v S'' ∧ wkWF S'' ∧ wkExt S0 S'')) : ∀ k' : Nat, (∀ (l0A : Nat) (l1I : Int32) (l2I : Int32) (l3I : Int32) (S : wPS), wkWF S → wkExt S0 S → wkIs S l0A 2 → rX2_areTwoHalves_go F k' 0 l0A l1I l2I l3I S Φ → wkGo l X 5 0 0 6 S [some (.ref l0A), some (.int l1I), some (.int l2I), some (.int l3I), none] []) ∧ (∀ (l0A : Nat) (l1I : Int32) (l2I : Int32) (l3I : Int32) (S : wPS), wkWF S → wkExt S0 S → wkIs S l0A 2 → rX2_areTwoHalves_go F k' 1 l0A l1I l2I l3I S Φ → wkGo l X 5 0 0 44 S [some (.ref l0A), some (.int l1I), some (.int l2I), some (.int l3I), none] []) := by
  intro k'
  induction k' with
  | zero => exact ⟨fun l0A l1I l2I l3I S hW hE hl0A h => h.elim, fun l0A l1I l2I l3I S hW hE hl0A h => h.elim⟩
  | succ k' ih =>
    refine ⟨?_, ?_⟩
    · intro l0A l1I l2I l3I S hW hE hl0A h
      have h : rX2_areTwoHalves_b0 F (rX2_areTwoHalves_go F k') l0A l1I l2I l3I S Φ := by
        rw [rX2_areTwoHalves_go, if_pos (rfl : (0 : Nat) = 0)] at h
        exact h
      unfold rX2_areTwoHalves_b0 at h
      refine wk_iload_n C dX2_areTwoHalves_6 rfl rfl ?_
      refine wk_aload_n C dX2_areTwoHalves_7 rfl rfl ?_
      refine wk_get C (v := .int (gDrawings_nodeCount S l0A)) huX2_areTwoHalves_2 hl0A.1 (fun cy => wAt_2 cy _ hl0A.2) rfl 8 (by decide) (List.mem_of_getElem? (i := 1) rfl) rfl rfl dX2_areTwoHalves_8 ?_
      refine wk_icmp_ge C (tgt := 42) dX2_areTwoHalves_11 (by decide) (fun c1 => ?_) (fun c1 => ?_)
      · rw [if_pos c1] at h
        refine wk_iconst C (v := 0) dX2_areTwoHalves_42 (by decide) ?_
        refine wk_istore_n C (lv' := [some (.ref l0A), some (.int l1I), some (.int l2I), some (.int (0 : Int32)), none]) dX2_areTwoHalves_43 rfl (by decide) rfl ?_
        exact wk_forget (lv' := [some (.ref l0A), some (.int l1I), some (.int l2I), some (.int (0 : Int32)), none]) (wkLs.le ⟨rfl, rfl, rfl, rfl, trivial⟩) (ih.2 _ _ _ _ _ hW hE hl0A h)
      · rw [if_neg c1] at h
        refine wk_aload_n C dX2_areTwoHalves_14 rfl rfl ?_
        refine wk_get C huX2_areTwoHalves_2 hl0A.1 (fun cy => wAt_2 cy _ hl0A.2) rfl 7 (by decide) (List.mem_of_getElem? (i := 2) rfl) rfl (congrArg some (congrArg va_rf (wf_Drawings_ways hW hl0A).1)) dX2_areTwoHalves_15 ?_
        refine wk_iload_n C dX2_areTwoHalves_18 rfl rfl ?_
        obtain ⟨i2, h⟩ := h
        refine wk_iald C (wf_Drawings_ways hW hl0A).2.1 (wf_Drawings_ways hW hl0A).2.2 i2 rfl dX2_areTwoHalves_19 ?_
        refine wk_if_eq C (tgt := 36) dX2_areTwoHalves_20 (by decide) (fun c3 => ?_) (fun c3 => ?_)
        · rw [if_pos c3] at h
          obtain ⟨x4, ex4, h⟩ := wkLt_some h
          refine wk_iinc C (lv' := [some (.ref l0A), some (.int l1I), some (.int l2I), some (.int x4), none]) dX2_areTwoHalves_36 rfl (by rw [ex4]; rfl) (by decide) rfl ?_
          refine wk_goto C (tgt := 6) dX2_areTwoHalves_39 (by decide) ?_
          exact wk_forget (lv' := [some (.ref l0A), some (.int l1I), some (.int l2I), some (.int x4), none]) (wkLs.le ⟨rfl, rfl, rfl, rfl, trivial⟩) (ih.1 _ _ _ _ _ hW hE hl0A h)
        · rw [if_neg c3] at h
          refine wk_iload_n C dX2_areTwoHalves_23 rfl rfl ?_
          refine wk_iconst C (v := 1) dX2_areTwoHalves_24 (by decide) ?_
          refine wk_iload_n C dX2_areTwoHalves_25 rfl rfl ?_
          refine wk_ishl C dX2_areTwoHalves_26 rfl ?_
          refine wk_ior C dX2_areTwoHalves_27 rfl ?_
          obtain ⟨x5, ex5, h⟩ := wkLt_some h
          refine wk_topi ex5 ?_
          refine wk_istore_n C (lv' := [some (.ref l0A), some (.int l1I), some (.int x5), some (.int l3I), none]) dX2_areTwoHalves_28 rfl (by decide) rfl ?_
          refine wk_aload_n C dX2_areTwoHalves_29 rfl rfl ?_
          refine wk_get C huX2_areTwoHalves_2 hl0A.1 (fun cy => wAt_2 cy _ hl0A.2) rfl 7 (by decide) (List.mem_of_getElem? (i := 2) rfl) rfl (congrArg some (congrArg va_rf (wf_Drawings_ways hW hl0A).1)) dX2_areTwoHalves_30 ?_
          refine wk_iload_n C dX2_areTwoHalves_33 rfl rfl ?_
          obtain ⟨i6, h⟩ := h
          refine wk_iald C (wf_Drawings_ways hW hl0A).2.1 (wf_Drawings_ways hW hl0A).2.2 i6 rfl dX2_areTwoHalves_34 ?_
          obtain ⟨x7, ex7, h⟩ := wkLt_some h
          refine wk_topi ex7 ?_
          refine wk_istore_n C (lv' := [some (.ref l0A), some (.int x7), some (.int x5), some (.int l3I), none]) dX2_areTwoHalves_35 rfl (by decide) rfl ?_
          obtain ⟨x8, ex8, h⟩ := wkLt_some h
          refine wk_iinc C (lv' := [some (.ref l0A), some (.int x7), some (.int x5), some (.int x8), none]) dX2_areTwoHalves_36 rfl (by rw [ex8]; rfl) (by decide) rfl ?_
          refine wk_goto C (tgt := 6) dX2_areTwoHalves_39 (by decide) ?_
          exact wk_forget (lv' := [some (.ref l0A), some (.int x7), some (.int x5), some (.int x8), none]) (wkLs.le ⟨rfl, rfl, rfl, rfl, trivial⟩) (ih.1 _ _ _ _ _ hW hE hl0A h)
    · intro l0A l1I l2I l3I S hW hE hl0A h
      have h : rX2_areTwoHalves_b1 F (rX2_areTwoHalves_go F k') l0A l1I l2I l3I S Φ := by
        rw [rX2_areTwoHalves_go, if_neg (show ¬ (1 : Nat) = 0 by decide), if_pos (rfl : (1 : Nat) = 1)] at h
        exact h
      unfold rX2_areTwoHalves_b1 at h
      refine wk_iload_n C dX2_areTwoHalves_44 rfl rfl ?_
      refine wk_aload_n C dX2_areTwoHalves_45 rfl rfl ?_
      refine wk_get C (v := .int (gDrawings_nodeCount S l0A)) huX2_areTwoHalves_2 hl0A.1 (fun cy => wAt_2 cy _ hl0A.2) rfl 8 (by decide) (List.mem_of_getElem? (i := 1) rfl) rfl rfl dX2_areTwoHalves_46 ?_
      refine wk_icmp_ge C (tgt := 91) dX2_areTwoHalves_49 (by decide) (fun c9 => ?_) (fun c9 => ?_)
      · rw [if_pos c9] at h
        refine wk_iload_n C dX2_areTwoHalves_91 rfl rfl ?_
        refine wk_callW C hR (As := [.int l1I]) (cnt := 1) (tJ6_bitCount_0f7a4 (l := l) hW  h) rfl (wkGoodW (List.mem_of_getElem? (i := 3) rfl) (List.mem_of_getElem? (i := 4) rfl) (List.mem_of_getElem? (i := 5) rfl) hbX2_areTwoHalves_J6_bitCount_0f7a4 gdJ6_bitCount_0f7a4) (Nat.le_trans (by decide : 0 + 1 ≤ 1) hd) (by decide) ⟨by decide, by decide, by decide +kernel⟩ rfl rfl (Nat.le_of_ble_eq_true rfl) (Nat.le_refl 0) (Nat.le_refl 0) dX2_areTwoHalves_92 (fun v' S11 hp => ?_)
        obtain ⟨v10, rfl, h, hWS11, hXS11⟩ := hp
        refine wk_iconst C (v := 3) dX2_areTwoHalves_95 (by decide) ?_
        refine wk_icmp_ne C (tgt := 103) dX2_areTwoHalves_96 (by decide) (fun c15 => ?_) (fun c15 => ?_)
        · rw [if_neg c15] at h
          refine wk_iconst C (v := 0) dX2_areTwoHalves_103 (by decide) ?_
          exact E _ _ _ _ _ _ (Nat.le_refl 0) (Nat.le_refl 0) dX2_areTwoHalves_104 rfl ⟨(0 : Int32), rfl, h, hWS11, (wkExt.tr hE hXS11)⟩
        · rw [if_pos c15] at h
          refine wk_iconst C (v := 1) dX2_areTwoHalves_99 (by decide) ?_
          refine wk_goto C (tgt := 104) dX2_areTwoHalves_100 (by decide) ?_
          exact E _ _ _ _ _ _ (Nat.le_refl 0) (Nat.le_refl 0) dX2_areTwoHalves_104 rfl ⟨(1 : Int32), rfl, h, hWS11, (wkExt.tr hE hXS11)⟩
      · rw [if_neg c9] at h
        refine wk_iload_n C dX2_areTwoHalves_52 rfl rfl ?_
        refine wk_iload_n C dX2_areTwoHalves_53 rfl rfl ?_
        refine wk_callN C hR (y := yX11_has) (host := "Witnessworks") (As := [.int l1I, .int l3I]) (cnt := 2) (tX11_has (l := l) hW  h) rfl (fun w h => ⟨hbX2_areTwoHalves_X11_has w h, gdX11_has w h⟩) (by decide +kernel) (List.mem_of_getElem? (i := 6) rfl) (List.mem_of_getElem? (i := 7) rfl) (Nat.le_trans (by decide : 0 + 1 ≤ 1) hd) (by decide) ⟨by decide, by decide, by decide +kernel⟩ rfl rfl (Nat.le_of_ble_eq_true rfl) (Nat.le_refl 0) (Nat.le_refl 0) dX2_areTwoHalves_54 (fun v' S17 hp => ?_)
        obtain ⟨v16, rfl, h, hWS17, hXS17⟩ := hp
        refine wk_if_eq C (tgt := 64) dX2_areTwoHalves_57 (by decide) (fun c21 => ?_) (fun c21 => ?_)
        · rw [if_pos c21] at h
          refine wk_iload_n C dX2_areTwoHalves_64 rfl rfl ?_
          refine wk_iload_n C dX2_areTwoHalves_65 rfl rfl ?_
          refine wk_iconst C (v := (-1)) dX2_areTwoHalves_66 (by decide) ?_
          refine wk_ixor C dX2_areTwoHalves_67 rfl ?_
          refine wk_iand C dX2_areTwoHalves_68 rfl ?_
          obtain ⟨x22, ex22, h⟩ := wkLt_some h
          refine wk_topi ex22 ?_
          refine wk_istore C (lv' := [some (.ref l0A), some (.int l1I), some (.int l2I), some (.int l3I), some (.int x22)]) dX2_areTwoHalves_69 (by decide) rfl ?_
          refine wk_aload_n C dX2_areTwoHalves_71 rfl rfl ?_
          refine wk_get C huX2_areTwoHalves_2 (hXS17 _ _ hl0A).1 (fun cy => wAt_2 cy _ (hXS17 _ _ hl0A).2) rfl 7 (by decide) (List.mem_of_getElem? (i := 2) rfl) rfl (congrArg some (congrArg va_rf (wf_Drawings_ways hWS17 (hXS17 _ _ hl0A)).1)) dX2_areTwoHalves_72 ?_
          refine wk_iload_n C dX2_areTwoHalves_75 rfl rfl ?_
          obtain ⟨i23, h⟩ := h
          refine wk_iald C (wf_Drawings_ways hWS17 (hXS17 _ _ hl0A)).2.1 (wf_Drawings_ways hWS17 (hXS17 _ _ hl0A)).2.2 i23 rfl dX2_areTwoHalves_76 ?_
          refine wk_iload C dX2_areTwoHalves_77 rfl ?_
          refine wk_iand C dX2_areTwoHalves_79 rfl ?_
          refine wk_if_eq C (tgt := 85) dX2_areTwoHalves_80 (by decide) (fun c24 => ?_) (fun c24 => ?_)
          · rw [if_pos c24] at h
            obtain ⟨x25, ex25, h⟩ := wkLt_some h
            refine wk_iinc C (lv' := [some (.ref l0A), some (.int l1I), some (.int l2I), some (.int x25), some (.int x22)]) dX2_areTwoHalves_85 rfl (by rw [ex25]; rfl) (by decide) rfl ?_
            refine wk_goto C (tgt := 44) dX2_areTwoHalves_88 (by decide) ?_
            exact wk_forget (lv' := [some (.ref l0A), some (.int l1I), some (.int l2I), some (.int x25), none]) (wkLs.le ⟨rfl, rfl, rfl, rfl, trivial⟩) (ih.2 _ _ _ _ _ hWS17 (wkExt.tr hE hXS17) (hXS17 _ _ hl0A) h)
          · rw [if_neg c24] at h
            refine wk_iconst C (v := 0) dX2_areTwoHalves_83 (by decide) ?_
            exact E _ _ _ _ _ _ (Nat.le_refl 0) (Nat.le_refl 0) dX2_areTwoHalves_84 rfl ⟨(0 : Int32), rfl, h, hWS17, (wkExt.tr hE hXS17)⟩
        · rw [if_neg c21] at h
          refine wk_iload_n C dX2_areTwoHalves_60 rfl rfl ?_
          refine wk_goto C (tgt := 69) dX2_areTwoHalves_61 (by decide) ?_
          refine wk_istore C (lv' := [some (.ref l0A), some (.int l1I), some (.int l2I), some (.int l3I), some (.int l1I)]) dX2_areTwoHalves_69 (by decide) rfl ?_
          refine wk_aload_n C dX2_areTwoHalves_71 rfl rfl ?_
          refine wk_get C huX2_areTwoHalves_2 (hXS17 _ _ hl0A).1 (fun cy => wAt_2 cy _ (hXS17 _ _ hl0A).2) rfl 7 (by decide) (List.mem_of_getElem? (i := 2) rfl) rfl (congrArg some (congrArg va_rf (wf_Drawings_ways hWS17 (hXS17 _ _ hl0A)).1)) dX2_areTwoHalves_72 ?_
          refine wk_iload_n C dX2_areTwoHalves_75 rfl rfl ?_
          obtain ⟨i26, h⟩ := h
          refine wk_iald C (wf_Drawings_ways hWS17 (hXS17 _ _ hl0A)).2.1 (wf_Drawings_ways hWS17 (hXS17 _ _ hl0A)).2.2 i26 rfl dX2_areTwoHalves_76 ?_
          refine wk_iload C dX2_areTwoHalves_77 rfl ?_
          refine wk_iand C dX2_areTwoHalves_79 rfl ?_
          refine wk_if_eq C (tgt := 85) dX2_areTwoHalves_80 (by decide) (fun c27 => ?_) (fun c27 => ?_)
          · rw [if_pos c27] at h
            obtain ⟨x28, ex28, h⟩ := wkLt_some h
            refine wk_iinc C (lv' := [some (.ref l0A), some (.int l1I), some (.int l2I), some (.int x28), some (.int l1I)]) dX2_areTwoHalves_85 rfl (by rw [ex28]; rfl) (by decide) rfl ?_
            refine wk_goto C (tgt := 44) dX2_areTwoHalves_88 (by decide) ?_
            exact wk_forget (lv' := [some (.ref l0A), some (.int l1I), some (.int l2I), some (.int x28), none]) (wkLs.le ⟨rfl, rfl, rfl, rfl, trivial⟩) (ih.2 _ _ _ _ _ hWS17 (wkExt.tr hE hXS17) (hXS17 _ _ hl0A) h)
          · rw [if_neg c27] at h
            refine wk_iconst C (v := 0) dX2_areTwoHalves_83 (by decide) ?_
            exact E _ _ _ _ _ _ (Nat.le_refl 0) (Nat.le_refl 0) dX2_areTwoHalves_84 rfl ⟨(0 : Int32), rfl, h, hWS17, (wkExt.tr hE hXS17)⟩
set_option maxHeartbeats 4000000 in
set_option maxRecDepth 100000 in
theorem tX2_areTwoHalves {l : Launch} {g : wkG} {F : Nat}  {S : wPS} {l0A : Nat} {Φ : (Int32 → wPS → Prop)} (hW : wkWF S) (hl0A : wkIs S l0A 2) (h : rX2_areTwoHalves F l0A S Φ) : wkMet l g yX2_areTwoHalves wvX2_areTwoHalves 1 0 0 [.ref l0A] S (fun v' S'' => ∃ v : Int32, v' = some (.int v) ∧ Φ v S'' ∧ wkWF S'' ∧ wkExt S S'') := by
  refine wkMet_of (ret := (some .boolean)) (by decide) rfl (Nat.le_of_ble_eq_true rfl) (fun X hg C hR E => ?_)
  subst hg
  have hE : wkExt S S := wkExt.rf
  have hd : 1 ≤ 1 := Nat.le_refl _
  show wkGo l X 5 0 0 0 S [some (.ref l0A), none, none, none, none] []
  have ih := tX2_areTwoHalves_go (F := F) C hR hd E F
  have h : rX2_areTwoHalves_s F (rX2_areTwoHalves_go F F) l0A S Φ := h
  unfold rX2_areTwoHalves_s at h
  refine wk_iconst C (v := 0) dX2_areTwoHalves_0 (by decide) ?_
  refine wk_istore_n C (lv' := [some (.ref l0A), some (.int (0 : Int32)), none, none, none]) dX2_areTwoHalves_1 rfl (by decide) rfl ?_
  refine wk_iconst C (v := 0) dX2_areTwoHalves_2 (by decide) ?_
  refine wk_istore_n C (lv' := [some (.ref l0A), some (.int (0 : Int32)), some (.int (0 : Int32)), none, none]) dX2_areTwoHalves_3 rfl (by decide) rfl ?_
  refine wk_iconst C (v := 0) dX2_areTwoHalves_4 (by decide) ?_
  refine wk_istore_n C (lv' := [some (.ref l0A), some (.int (0 : Int32)), some (.int (0 : Int32)), some (.int (0 : Int32)), none]) dX2_areTwoHalves_5 rfl (by decide) rfl ?_
  exact wk_forget (lv' := [some (.ref l0A), some (.int (0 : Int32)), some (.int (0 : Int32)), some (.int (0 : Int32)), none]) (wkLs.le ⟨rfl, rfl, rfl, rfl, trivial⟩) (ih.1 _ _ _ _ _ hW hE hl0A h)
def wvX3_fillNear : List Cond := .code yX3_fillNear cX3_fillNear 4 none :: (([.fieldLink RX3 54 "Witnessworks$Entry" "itemCount" "I", .static yX11_has, .initialized RX11, .methodLink RX3 70 yX3_at, .instanceMethod yX3_at, .selects RX3 yX3_at yX3_at, .initialized RX3, .methodLink RX3 74 yJ7_fill_53178, .static yJ7_fill_53178, .initialized RJ7] : List Cond) ++ ((wsX30) ++ (wvX11_has ++ (wvX3_at ++ (wvJ7_fill_53178)))))
theorem huX3_fillNear_3 : ∀ w ∈ u_ws RX3 TX3 17, w ∈ wvX3_fillNear := fun w h => List.mem_cons_of_mem _ (List.mem_append_right _ (List.mem_append_left _ h))
theorem hbX3_fillNear_X11_has : ∀ w ∈ wvX11_has, w ∈ wvX3_fillNear := fun w h => List.mem_cons_of_mem _ (List.mem_append_right _ (List.mem_append_right _ (List.mem_append_left _ h)))
theorem hbX3_fillNear_X3_at : ∀ w ∈ wvX3_at, w ∈ wvX3_fillNear := fun w h => List.mem_cons_of_mem _ (List.mem_append_right _ (List.mem_append_right _ (List.mem_append_right _ (List.mem_append_left _ h))))
theorem hbX3_fillNear_J7_fill_53178 : ∀ w ∈ wvJ7_fill_53178, w ∈ wvX3_fillNear := fun w h => List.mem_cons_of_mem _ (List.mem_append_right _ (List.mem_append_right _ (List.mem_append_right _ (List.mem_append_right _ h))))
theorem gdX3_fillNear : ∀ w ∈ wvX3_fillNear, wkGd w := wkGdC rfl (wkGdA (wkGdL (by decide +kernel)) (wkGdA gdX3 (wkGdA gdX11_has (wkGdA gdX3_at gdJ7_fill_53178))))
def rX3_fillNear_b0 (F : Nat) (rec : Nat → Nat → Nat → Int32 → Int32 → wPS → (Unit → wPS → Prop) → Prop) (l0A : Nat) (l1A : Nat) (l2I : Int32) (l3I : Int32) (S : wPS) (Φ : (Unit → wPS → Prop)) : Prop :=
  if (gEntry_itemCount S l0A) ≤ l3I then (Φ () S) else (rX11_has F l2I l3I S fun v2 S3 => if v2 = 0 then (wkLt (l3I + (1 : Int32)) fun x8 => rec 0 l0A l1A l2I x8 S3 Φ) else (rX3_at F l0A l3I (0 : Int32) S3 fun v9 S10 => ¬ (v9 < 0 ∨ S10.len l1A ≤ (v9).toNatClampNeg) ∧ rX3_at F l0A l3I (1 : Int32) S10 fun v15 S16 => ¬ (v9 < 0 ∨ S16.len l1A ≤ (v9).toNatClampNeg) ∧ wkLt (wuI S16 l1A v9 ((S10.rI l1A (v9).toNatClampNeg) ||| ((1 : Int32) <<< (v15 &&& 31)))) fun S21 => rX3_at F l0A l3I (1 : Int32) S21 fun v22 S23 => ¬ (v22 < 0 ∨ S23.len l1A ≤ (v22).toNatClampNeg) ∧ rX3_at F l0A l3I (0 : Int32) S23 fun v28 S29 => ¬ (v22 < 0 ∨ S29.len l1A ≤ (v22).toNatClampNeg) ∧ wkLt (wuI S29 l1A v22 ((S23.rI l1A (v22).toNatClampNeg) ||| ((1 : Int32) <<< (v28 &&& 31)))) fun S34 => wkLt (l3I + (1 : Int32)) fun x35 => rec 0 l0A l1A l2I x35 S34 Φ))
def rX3_fillNear_go (F : Nat) : Nat → Nat → Nat → Nat → Int32 → Int32 → wPS → (Unit → wPS → Prop) → Prop
  | 0, _, _, _, _, _, _, _ => False
  | k' + 1, lab, l0A, l1A, l2I, l3I, S, Φ => if lab = 0 then rX3_fillNear_b0 F (rX3_fillNear_go F k') l0A l1A l2I l3I S Φ else False
def rX3_fillNear_s (F : Nat) (rec : Nat → Nat → Nat → Int32 → Int32 → wPS → (Unit → wPS → Prop) → Prop) (l0A : Nat) (l1A : Nat) (l2I : Int32) (S : wPS) (Φ : (Unit → wPS → Prop)) : Prop :=
  rJ7_fill_53178 F l1A (0 : Int32) S fun v36 S37 => rec 0 l0A l1A l2I (0 : Int32) S37 Φ
def rX3_fillNear (F : Nat) (l0A : Nat) (l1A : Nat) (l2I : Int32) (S : wPS) (Φ : (Unit → wPS → Prop)) : Prop := rX3_fillNear_s F (rX3_fillNear_go F F) l0A l1A l2I S Φ
set_option maxHeartbeats 4000000 in
set_option maxRecDepth 100000 in
theorem tX3_fillNear_go {l : Launch} {X : wkX} {d F : Nat} {S0 : wPS} {Φ : (Unit → wPS → Prop)} (C : wkC X cX3_fillNear RX3 4 wvX3_fillNear) (hR : wkRm X d 0 0) (hd : 1 ≤ d) (E : wkEnd l X cX3_fillNear 4 none 0 0 (fun v' S'' => ∃ v : Unit, v' = none ∧ Φ v S'' ∧ wkWF S'' ∧ wkExt S0 S'')) : ∀ k' : Nat, (∀ (l0A : Nat) (l1A : Nat) (l2I : Int32) (l3I : Int32) (S : wPS), wkWF S → wkExt S0 S → wkIs S l0A 3 → wkIs S l1A 13 → rX3_fillNear_go F k' 0 l0A l1A l2I l3I S Φ → wkGo l X 4 0 0 7 S [some (.ref l0A), some (.ref l1A), some (.int l2I), some (.int l3I)] []) := by
  intro k'
  induction k' with
  | zero => exact fun l0A l1A l2I l3I S hW hE hl0A hl1A h => h.elim
  | succ k' ih =>
    · intro l0A l1A l2I l3I S hW hE hl0A hl1A h
      have h : rX3_fillNear_b0 F (rX3_fillNear_go F k') l0A l1A l2I l3I S Φ := by
        rw [rX3_fillNear_go, if_pos (rfl : (0 : Nat) = 0)] at h
        exact h
      unfold rX3_fillNear_b0 at h
      refine wk_iload_n C dX3_fillNear_7 rfl rfl ?_
      refine wk_aload_n C dX3_fillNear_8 rfl rfl ?_
      refine wk_get C (v := .int (gEntry_itemCount S l0A)) huX3_fillNear_3 hl0A.1 (fun cy => wAt_3 cy _ hl0A.2) rfl 6 (by decide) (List.mem_of_getElem? (i := 1) rfl) rfl rfl dX3_fillNear_9 ?_
      refine wk_icmp_ge C (tgt := 67) dX3_fillNear_12 (by decide) (fun c1 => ?_) (fun c1 => ?_)
      · rw [if_pos c1] at h
        exact E _ _ _ _ _ (Nat.le_refl 0) (Nat.le_refl 0) dX3_fillNear_67 ⟨(), rfl, h, hW, hE⟩
      · rw [if_neg c1] at h
        refine wk_iload_n C dX3_fillNear_15 rfl rfl ?_
        refine wk_iload_n C dX3_fillNear_16 rfl rfl ?_
        refine wk_callN C hR (y := yX11_has) (host := "Witnessworks") (As := [.int l2I, .int l3I]) (cnt := 2) (tX11_has (l := l) hW  h) rfl (fun w h => ⟨hbX3_fillNear_X11_has w h, gdX11_has w h⟩) (by decide +kernel) (List.mem_of_getElem? (i := 2) rfl) (List.mem_of_getElem? (i := 3) rfl) (Nat.le_trans (by decide : 0 + 1 ≤ 1) hd) (by decide) ⟨by decide, by decide, by decide +kernel⟩ rfl rfl (Nat.le_of_ble_eq_true rfl) (Nat.le_refl 0) (Nat.le_refl 0) dX3_fillNear_17 (fun v' S3 hp => ?_)
        obtain ⟨v2, rfl, h, hWS3, hXS3⟩ := hp
        refine wk_if_eq C (tgt := 61) dX3_fillNear_20 (by decide) (fun c7 => ?_) (fun c7 => ?_)
        · rw [if_pos c7] at h
          obtain ⟨x8, ex8, h⟩ := wkLt_some h
          refine wk_iinc C (lv' := [some (.ref l0A), some (.ref l1A), some (.int l2I), some (.int x8)]) dX3_fillNear_61 rfl (by rw [ex8]; rfl) (by decide) rfl ?_
          refine wk_goto C (tgt := 7) dX3_fillNear_64 (by decide) ?_
          exact wk_forget (lv' := [some (.ref l0A), some (.ref l1A), some (.int l2I), some (.int x8)]) (wkLs.le ⟨rfl, rfl, rfl, rfl, trivial⟩) (ih _ _ _ _ _ hWS3 (wkExt.tr hE hXS3) (hXS3 _ _ hl0A) (hXS3 _ _ hl1A) h)
        · rw [if_neg c7] at h
          refine wk_aload_n C dX3_fillNear_23 rfl rfl ?_
          refine wk_aload_n C dX3_fillNear_24 rfl rfl ?_
          refine wk_iload_n C dX3_fillNear_25 rfl rfl ?_
          refine wk_iconst C (v := 0) dX3_fillNear_26 (by decide) ?_
          refine wk_callV C hR (As := [.int l3I, .int (0 : Int32)]) (cnt := 2) (tX3_at (l := l) hWS3 (hXS3 _ _ hl0A) h) rfl (wkGoodV (List.mem_of_getElem? (i := 4) rfl) (List.mem_of_getElem? (i := 5) rfl) (List.mem_of_getElem? (i := 6) rfl) (List.mem_of_getElem? (i := 7) rfl) hbX3_fillNear_X3_at gdX3_at) (Nat.le_trans (by decide : 0 + 1 ≤ 1) hd) (by decide) (hXS3 _ _ hl0A).1 (fun cy => wAt_3 cy _ (hXS3 _ _ hl0A).2) rfl ⟨by decide, by decide, by decide +kernel⟩ rfl rfl (Nat.le_of_ble_eq_true rfl) (Nat.le_refl 0) (Nat.le_refl 0) dX3_fillNear_27 (fun v' S10 hp => ?_)
          obtain ⟨v9, rfl, h, hWS10, hXS10⟩ := hp
          refine wk_dup2 C dX3_fillNear_30 rfl rfl ?_
          obtain ⟨i14, h⟩ := h
          refine wk_iald C (hXS10 _ _ (hXS3 _ _ hl1A)).1 (hXS10 _ _ (hXS3 _ _ hl1A)).2 i14 rfl dX3_fillNear_31 ?_
          refine wk_iconst C (v := 1) dX3_fillNear_32 (by decide) ?_
          refine wk_aload_n C dX3_fillNear_33 rfl rfl ?_
          refine wk_iload_n C dX3_fillNear_34 rfl rfl ?_
          refine wk_iconst C (v := 1) dX3_fillNear_35 (by decide) ?_
          refine wk_callV C hR (As := [.int l3I, .int (1 : Int32)]) (cnt := 2) (tX3_at (l := l) hWS10 (hXS10 _ _ (hXS3 _ _ hl0A)) h) rfl (wkGoodV (List.mem_of_getElem? (i := 4) rfl) (List.mem_of_getElem? (i := 5) rfl) (List.mem_of_getElem? (i := 6) rfl) (List.mem_of_getElem? (i := 7) rfl) hbX3_fillNear_X3_at gdX3_at) (Nat.le_trans (by decide : 0 + 1 ≤ 1) hd) (by decide) (hXS10 _ _ (hXS3 _ _ hl0A)).1 (fun cy => wAt_3 cy _ (hXS10 _ _ (hXS3 _ _ hl0A)).2) rfl ⟨by decide, by decide, by decide +kernel⟩ rfl rfl (Nat.le_of_ble_eq_true rfl) (Nat.le_refl 0) (Nat.le_refl 0) dX3_fillNear_36 (fun v' S16 hp => ?_)
          obtain ⟨v15, rfl, h, hWS16, hXS16⟩ := hp
          refine wk_ishl C dX3_fillNear_39 rfl ?_
          refine wk_ior C dX3_fillNear_40 rfl ?_
          obtain ⟨i20, h⟩ := h
          obtain ⟨S21, eS21, h⟩ := wkLt_some h
          refine wk_iast C (hXS16 _ _ (hXS10 _ _ (hXS3 _ _ hl1A))).1 (hXS16 _ _ (hXS10 _ _ (hXS3 _ _ hl1A))).2 i20 eS21.symm dX3_fillNear_41 ?_
          have hWS21 : wkWF S21 := by rw [eS21]; exact hWS16
          have hXS21 : wkExt S16 S21 := by rw [eS21]; exact wkExt.rf
          refine wk_aload_n C dX3_fillNear_42 rfl rfl ?_
          refine wk_aload_n C dX3_fillNear_43 rfl rfl ?_
          refine wk_iload_n C dX3_fillNear_44 rfl rfl ?_
          refine wk_iconst C (v := 1) dX3_fillNear_45 (by decide) ?_
          refine wk_callV C hR (As := [.int l3I, .int (1 : Int32)]) (cnt := 2) (tX3_at (l := l) hWS21 (hXS21 _ _ (hXS16 _ _ (hXS10 _ _ (hXS3 _ _ hl0A)))) h) rfl (wkGoodV (List.mem_of_getElem? (i := 4) rfl) (List.mem_of_getElem? (i := 5) rfl) (List.mem_of_getElem? (i := 6) rfl) (List.mem_of_getElem? (i := 7) rfl) hbX3_fillNear_X3_at gdX3_at) (Nat.le_trans (by decide : 0 + 1 ≤ 1) hd) (by decide) (hXS21 _ _ (hXS16 _ _ (hXS10 _ _ (hXS3 _ _ hl0A)))).1 (fun cy => wAt_3 cy _ (hXS21 _ _ (hXS16 _ _ (hXS10 _ _ (hXS3 _ _ hl0A)))).2) rfl ⟨by decide, by decide, by decide +kernel⟩ rfl rfl (Nat.le_of_ble_eq_true rfl) (Nat.le_refl 0) (Nat.le_refl 0) dX3_fillNear_46 (fun v' S23 hp => ?_)
          obtain ⟨v22, rfl, h, hWS23, hXS23⟩ := hp
          refine wk_dup2 C dX3_fillNear_49 rfl rfl ?_
          obtain ⟨i27, h⟩ := h
          refine wk_iald C (hXS23 _ _ (hXS21 _ _ (hXS16 _ _ (hXS10 _ _ (hXS3 _ _ hl1A))))).1 (hXS23 _ _ (hXS21 _ _ (hXS16 _ _ (hXS10 _ _ (hXS3 _ _ hl1A))))).2 i27 rfl dX3_fillNear_50 ?_
          refine wk_iconst C (v := 1) dX3_fillNear_51 (by decide) ?_
          refine wk_aload_n C dX3_fillNear_52 rfl rfl ?_
          refine wk_iload_n C dX3_fillNear_53 rfl rfl ?_
          refine wk_iconst C (v := 0) dX3_fillNear_54 (by decide) ?_
          refine wk_callV C hR (As := [.int l3I, .int (0 : Int32)]) (cnt := 2) (tX3_at (l := l) hWS23 (hXS23 _ _ (hXS21 _ _ (hXS16 _ _ (hXS10 _ _ (hXS3 _ _ hl0A))))) h) rfl (wkGoodV (List.mem_of_getElem? (i := 4) rfl) (List.mem_of_getElem? (i := 5) rfl) (List.mem_of_getElem? (i := 6) rfl) (List.mem_of_getElem? (i := 7) rfl) hbX3_fillNear_X3_at gdX3_at) (Nat.le_trans (by decide : 0 + 1 ≤ 1) hd) (by decide) (hXS23 _ _ (hXS21 _ _ (hXS16 _ _ (hXS10 _ _ (hXS3 _ _ hl0A))))).1 (fun cy => wAt_3 cy _ (hXS23 _ _ (hXS21 _ _ (hXS16 _ _ (hXS10 _ _ (hXS3 _ _ hl0A))))).2) rfl ⟨by decide, by decide, by decide +kernel⟩ rfl rfl (Nat.le_of_ble_eq_true rfl) (Nat.le_refl 0) (Nat.le_refl 0) dX3_fillNear_55 (fun v' S29 hp => ?_)
          obtain ⟨v28, rfl, h, hWS29, hXS29⟩ := hp
          refine wk_ishl C dX3_fillNear_58 rfl ?_
          refine wk_ior C dX3_fillNear_59 rfl ?_
          obtain ⟨i33, h⟩ := h
          obtain ⟨S34, eS34, h⟩ := wkLt_some h
          refine wk_iast C (hXS29 _ _ (hXS23 _ _ (hXS21 _ _ (hXS16 _ _ (hXS10 _ _ (hXS3 _ _ hl1A)))))).1 (hXS29 _ _ (hXS23 _ _ (hXS21 _ _ (hXS16 _ _ (hXS10 _ _ (hXS3 _ _ hl1A)))))).2 i33 eS34.symm dX3_fillNear_60 ?_
          have hWS34 : wkWF S34 := by rw [eS34]; exact hWS29
          have hXS34 : wkExt S29 S34 := by rw [eS34]; exact wkExt.rf
          obtain ⟨x35, ex35, h⟩ := wkLt_some h
          refine wk_iinc C (lv' := [some (.ref l0A), some (.ref l1A), some (.int l2I), some (.int x35)]) dX3_fillNear_61 rfl (by rw [ex35]; rfl) (by decide) rfl ?_
          refine wk_goto C (tgt := 7) dX3_fillNear_64 (by decide) ?_
          exact wk_forget (lv' := [some (.ref l0A), some (.ref l1A), some (.int l2I), some (.int x35)]) (wkLs.le ⟨rfl, rfl, rfl, rfl, trivial⟩) (ih _ _ _ _ _ hWS34 (wkExt.tr (wkExt.tr (wkExt.tr (wkExt.tr (wkExt.tr (wkExt.tr (wkExt.tr hE hXS3) hXS10) hXS16) hXS21) hXS23) hXS29) hXS34) (hXS34 _ _ (hXS29 _ _ (hXS23 _ _ (hXS21 _ _ (hXS16 _ _ (hXS10 _ _ (hXS3 _ _ hl0A))))))) (hXS34 _ _ (hXS29 _ _ (hXS23 _ _ (hXS21 _ _ (hXS16 _ _ (hXS10 _ _ (hXS3 _ _ hl1A))))))) h)
set_option maxHeartbeats 4000000 in
set_option maxRecDepth 100000 in
theorem tX3_fillNear {l : Launch} {g : wkG} {F : Nat}  {S : wPS} {l0A : Nat} {l1A : Nat} {l2I : Int32} {Φ : (Unit → wPS → Prop)} (hW : wkWF S) (hl0A : wkIs S l0A 3) (hl1A : wkIs S l1A 13) (h : rX3_fillNear F l0A l1A l2I S Φ) : wkMet l g yX3_fillNear wvX3_fillNear 1 0 0 [.ref l0A, .ref l1A, .int l2I] S (fun v' S'' => ∃ v : Unit, v' = none ∧ Φ v S'' ∧ wkWF S'' ∧ wkExt S S'') := by
  refine wkMet_of (ret := none) (by decide) rfl (Nat.le_of_ble_eq_true rfl) (fun X hg C hR E => ?_)
  subst hg
  have hE : wkExt S S := wkExt.rf
  have hd : 1 ≤ 1 := Nat.le_refl _
  show wkGo l X 4 0 0 0 S [some (.ref l0A), some (.ref l1A), some (.int l2I), none] []
  have ih := tX3_fillNear_go (F := F) C hR hd E F
  have h : rX3_fillNear_s F (rX3_fillNear_go F F) l0A l1A l2I S Φ := h
  unfold rX3_fillNear_s at h
  refine wk_aload_n C dX3_fillNear_0 rfl rfl ?_
  refine wk_iconst C (v := 0) dX3_fillNear_1 (by decide) ?_
  refine wk_callW C hR (As := [.ref l1A, .int (0 : Int32)]) (cnt := 2) (tJ7_fill_53178 (l := l) hW hl1A h) rfl (wkGoodW (List.mem_of_getElem? (i := 8) rfl) (List.mem_of_getElem? (i := 9) rfl) (List.mem_of_getElem? (i := 10) rfl) hbX3_fillNear_J7_fill_53178 gdJ7_fill_53178) (Nat.le_trans (by decide : 0 + 1 ≤ 1) hd) (by decide) ⟨by decide, by decide, by decide +kernel⟩ rfl rfl (Nat.le_of_ble_eq_true rfl) (Nat.le_refl 0) (Nat.le_refl 0) dX3_fillNear_2 (fun v' S37 hp => ?_)
  obtain ⟨v36, rfl, h, hWS37, hXS37⟩ := hp
  refine wk_iconst C (v := 0) dX3_fillNear_5 (by decide) ?_
  refine wk_istore_n C (lv' := [some (.ref l0A), some (.ref l1A), some (.int l2I), some (.int (0 : Int32))]) dX3_fillNear_6 rfl (by decide) rfl ?_
  exact wk_forget (lv' := [some (.ref l0A), some (.ref l1A), some (.int l2I), some (.int (0 : Int32))]) (wkLs.le ⟨rfl, rfl, rfl, rfl, trivial⟩) (ih _ _ _ _ _ hWS37 (wkExt.tr hE hXS37) (hXS37 _ _ hl0A) (hXS37 _ _ hl1A) h)
