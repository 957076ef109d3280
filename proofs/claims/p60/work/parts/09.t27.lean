def wvX2_areTwoHalves : List Cond := .code yX2_areTwoHalves cX2_areTwoHalves 5 (some .boolean) :: (([.fieldLink RX2 62 "Witnessworks$Drawings" "nodeCount" "I", .fieldLink RX2 31 "Witnessworks$Drawings" "ways" "[I", .methodLink RX2 100 yJ6_bitCount_0f7a4, .static yJ6_bitCount_0f7a4, .initialized RJ6, .static yX11_has, .initialized RX11] : List Cond) ++ ((wsX20) ++ (wvJ6_bitCount_0f7a4 ++ (wvX11_has))))
theorem huX2_areTwoHalves_2 : ∀ w ∈ u_ws RX2 TX2 10, w ∈ wvX2_areTwoHalves := fun w h => List.mem_cons_of_mem _ (List.mem_append_right _ (List.mem_append_left _ h))
theorem hbX2_areTwoHalves_J6_bitCount_0f7a4 : ∀ w ∈ wvJ6_bitCount_0f7a4, w ∈ wvX2_areTwoHalves := fun w h => List.mem_cons_of_mem _ (List.mem_append_right _ (List.mem_append_right _ (List.mem_append_left _ h)))
theorem hbX2_areTwoHalves_X11_has : ∀ w ∈ wvX11_has, w ∈ wvX2_areTwoHalves := fun w h => List.mem_cons_of_mem _ (List.mem_append_right _ (List.mem_append_right _ (List.mem_append_right _ h)))
theorem gdX2_areTwoHalves : ∀ w ∈ wvX2_areTwoHalves, wkGd w := wkGdC rfl (wkGdA (wkGdL (by decide +kernel)) (wkGdA gdX2 (wkGdA gdJ6_bitCount_0f7a4 gdX11_has)))
def rX2_areTwoHalves_b0 (F : Nat) (rec : Nat → Nat → Int32 → Int32 → Int32 → wPS → (Int32 → wPS → Prop) → Prop) (l0A : Nat) (l1I : Int32) (l2I : Int32) (l3I : Int32) (S : wPS) (Φ : (Int32 → wPS → Prop)) : Prop :=
  if (gDrawings_nodeCount S l0A) ≤ l3I then (rec 1 l0A l1I l2I (0 : Int32) S Φ) else (¬ (l3I < 0 ∨ S.len (wkAd (gDrawings_ways S l0A)) ≤ (l3I).toNatClampNeg) ∧ if (S.rI (wkAd (gDrawings_ways S l0A)) (l3I).toNatClampNeg) = 0 then (wkLt (l3I + (1 : Int32)) fun x4 => rec 0 l0A l1I l2I x4 S Φ) else (wkLt ((l2I ||| ((1 : Int32) <<< (l3I &&& 31)))) fun x5 => ¬ (l3I < 0 ∨ S.len (wkAd (gDrawings_ways S l0A)) ≤ (l3I).toNatClampNeg) ∧ wkLt ((S.rI (wkAd (gDrawings_ways S l0A)) (l3I).toNatClampNeg)) fun x7 => wkLt (l3I + (1 : Int32)) fun x8 => rec 0 l0A x7 x5 x8 S Φ))
def rX2_areTwoHalves_b1 (F : Nat) (rec : Nat → Nat → Int32 → Int32 → Int32 → wPS → (Int32 → wPS → Prop) → Prop) (l0A : Nat) (l1I : Int32) (l2I : Int32) (l3I : Int32) (S : wPS) (Φ : (Int32 → wPS → Prop)) : Prop :=
  if (gDrawings_nodeCount S l0A) ≤ l3I then (rJ6_bitCount_0f7a4 F l1I S fun v10 S11 => if v10 = (3 : Int32) then (Φ (1 : Int32) S11) else (Φ (0 : Int32) S11)) else (rX11_has F l1I l3I S fun v16 S17 => if v16 = 0 then (wkLt ((l2I &&& (l1I ^^^ (-1 : Int32)))) fun x22 => ¬ (l3I < 0 ∨ S17.len (wkAd (gDrawings_ways S17 l0A)) ≤ (l3I).toNatClampNeg) ∧ if ((S17.rI (wkAd (gDrawings_ways S17 l0A)) (l3I).toNatClampNeg) &&& x22) = 0 then (wkLt (l3I + (1 : Int32)) fun x25 => rec 1 l0A l1I l2I x25 S17 Φ) else (Φ (0 : Int32) S17)) else (¬ (l3I < 0 ∨ S17.len (wkAd (gDrawings_ways S17 l0A)) ≤ (l3I).toNatClampNeg) ∧ if ((S17.rI (wkAd (gDrawings_ways S17 l0A)) (l3I).toNatClampNeg) &&& l1I) = 0 then (wkLt (l3I + (1 : Int32)) fun x28 => rec 1 l0A l1I l2I x28 S17 Φ) else (Φ (0 : Int32) S17)))
def rX2_areTwoHalves_go (F : Nat) : Nat → Nat → Nat → Int32 → Int32 → Int32 → wPS → (Int32 → wPS → Prop) → Prop
  | 0, _, _, _, _, _, _, _ => False
  | k' + 1, lab, l0A, l1I, l2I, l3I, S, Φ => if lab = 0 then rX2_areTwoHalves_b0 F (rX2_areTwoHalves_go F k') l0A l1I l2I l3I S Φ else if lab = 1 then rX2_areTwoHalves_b1 F (rX2_areTwoHalves_go F k') l0A l1I l2I l3I S Φ else False
def rX2_areTwoHalves_s (F : Nat) (rec : Nat → Nat → Int32 → Int32 → Int32 → wPS → (Int32 → wPS → Prop) → Prop) (l0A : Nat) (S : wPS) (Φ : (Int32 → wPS → Prop)) : Prop :=
  rec 0 l0A (0 : Int32) (0 : Int32) (0 : Int32) S Φ
def rX2_areTwoHalves (F : Nat) (l0A : Nat) (S : wPS) (Φ : (Int32 → wPS → Prop)) : Prop := rX2_areTwoHalves_s F (rX2_areTwoHalves_go F F) l0A S Φ
set_option maxHeartbeats 4000000 in
set_option maxRecDepth 100000 in
theorem tX2_areTwoHalves_go {l : Launch} {X : wkX} {d F : Nat} {S0 : wPS} {Φ : (Int32 → wPS → Prop)} (C : wkC X cX2_areTwoHalves RX2 5 wvX2_areTwoHalves) (hR : wkRm X d 0 0) (hd : 1 ≤ d) (E : wkEnd l X cX2_areTwoHalves 5 (some .boolean) 0 0 (fun v' S'' => ∃ v : Int32, v' = some (.int v) ∧ Φ v S'' ∧ wkWF S'' ∧ wkExt S0 S'')) : ∀ k' : Nat, (∀ (l0A : Nat) (l1I : Int32) (l2I : Int32) (l3I : Int32) (S : wPS), wkWF S → wkExt S0 S → wkIs S l0A 2 → rX2_areTwoHalves_go F k' 0 l0A l1I l2I l3I S Φ → wkGo l X 5 0 0 6 S [some (.ref l0A), some (.int l1I), some (.int l2I), some (.int l3I), none] []) ∧ (∀ (l0A : Nat) (l1I : Int32) (l2I : Int32) (l3I : Int32) (S : wPS), wkWF S → wkExt S0 S → wkIs S l0A 2 → rX2_areTwoHalves_go F k' 1 l0A l1I l2I l3I S Φ → wkGo l X 5 0 0 44 S [some (.ref l0A), some (.int l1I), some (.int l2I), some (.int l3I), none] []) := by
  intro k'
  induction k' with
  | zero => exact ⟨fun l0A l1I l2I l3I S hW hE hl0A h => h.elim, fun l0A l1I l2I l3I S hW hE hl0A h => h.elim⟩
  | succ k' ih =>
    refine ⟨?_, ?_⟩
    · intro l0A l1I l2I l3I S hW hE hl0A h
      have h : rX2_areTwoHalves_b0 F (rX2_areTwoHalves_go F k') l0A l1I l2I l3I S Φ := by
        rw [rX2_areTwoHalves_go, if_pos (rfl : (0 : Nat) = 0)] at h
        exact h
      unfold rX2_areTwoHalves_b0 at h
      refine wk_iload_n C dX2_areTwoHalves_6 rfl rfl ?_
      refine wk_aload_n C dX2_areTwoHalves_7 rfl rfl ?_
      refine wk_get C (v := .int (gDrawings_nodeCount S l0A)) huX2_areTwoHalves_2 hl0A.1 (fun cy => wAt_2 cy _ hl0A.2) rfl 8 (by decide) (List.mem_of_getElem? (i := 1) rfl) rfl rfl dX2_areTwoHalves_8 ?_
      refine wk_icmp_ge C (tgt := 42) dX2_areTwoHalves_11 (by decide) (fun c1 => ?_) (fun c1 => ?_)
      · rw [if_pos c1] at h
        refine wk_iconst C (v := 0) dX2_areTwoHalves_42 (by decide) ?_
        refine wk_istore_n C (lv' := [some (.ref l0A), some (.int l1I), some (.int l2I), some (.int (0 : Int32)), none]) dX2_areTwoHalves_43 rfl (by decide) rfl ?_
        exact wk_forget (lv' := [some (.ref l0A), some (.int l1I), some (.int l2I), some (.int (0 : Int32)), none]) (wkLs.le ⟨rfl, rfl, rfl, rfl, trivial⟩) (ih.2 _ _ _ _ _ hW hE hl0A h)
      · rw [if_neg c1] at h
        refine wk_aload_n C dX2_areTwoHalves_14 rfl rfl ?_
        refine wk_get C huX2_areTwoHalves_2 hl0A.1 (fun cy => wAt_2 cy _ hl0A.2) rfl 7 (by decide) (List.mem_of_getElem? (i := 2) rfl) rfl (congrArg some (congrArg va_rf (wf_Drawings_ways hW hl0A).1)) dX2_areTwoHalves_15 ?_
        refine wk_iload_n C dX2_areTwoHalves_18 rfl rfl ?_
        obtain ⟨i2, h⟩ := h
        refine wk_iald C (wf_Drawings_ways hW hl0A).2.1 (wf_Drawings_ways hW hl0A).2.2 i2 rfl dX2_areTwoHalves_19 ?_
        refine wk_if_eq C (tgt := 36) dX2_areTwoHalves_20 (by decide) (fun c3 => ?_) (fun c3 => ?_)
        · rw [if_pos c3] at h
          obtain ⟨x4, ex4, h⟩ := wkLt_some h
          refine wk_iinc C (lv' := [some (.ref l0A), some (.int l1I), some (.int l2I), some (.int x4), none]) dX2_areTwoHalves_36 rfl (by rw [ex4]; rfl) (by decide) rfl ?_
          refine wk_goto C (tgt := 6) dX2_areTwoHalves_39 (by decide) ?_
          exact wk_forget (lv' := [some (.ref l0A), some (.int l1I), some (.int l2I), some (.int x4), none]) (wkLs.le ⟨rfl, rfl, rfl, rfl, trivial⟩) (ih.1 _ _ _ _ _ hW hE hl0A h)
        · rw [if_neg c3] at h
          refine wk_iload_n C dX2_areTwoHalves_23 rfl rfl ?_
          refine wk_iconst C (v := 1) dX2_areTwoHalves_24 (by decide) ?_
          refine wk_iload_n C dX2_areTwoHalves_25 rfl rfl ?_
          refine wk_ishl C dX2_areTwoHalves_26 rfl ?_
          refine wk_ior C dX2_areTwoHalves_27 rfl ?_
          obtain ⟨x5, ex5, h⟩ := wkLt_some h
          refine wk_topi ex5 ?_
          refine wk_istore_n C (lv' := [some (.ref l0A), some (.int l1I), some (.int x5), some (.int l3I), none]) dX2_areTwoHalves_28 rfl (by decide) rfl ?_
          refine wk_aload_n C dX2_areTwoHalves_29 rfl rfl ?_
          refine wk_get C huX2_areTwoHalves_2 hl0A.1 (fun cy => wAt_2 cy _ hl0A.2) rfl 7 (by decide) (List.mem_of_getElem? (i := 2) rfl) rfl (congrArg some (congrArg va_rf (wf_Drawings_ways hW hl0A).1)) dX2_areTwoHalves_30 ?_
          refine wk_iload_n C dX2_areTwoHalves_33 rfl rfl ?_
          obtain ⟨i6, h⟩ := h
          refine wk_iald C (wf_Drawings_ways hW hl0A).2.1 (wf_Drawings_ways hW hl0A).2.2 i6 rfl dX2_areTwoHalves_34 ?_
          obtain ⟨x7, ex7, h⟩ := wkLt_some h
          refine wk_topi ex7 ?_
          refine wk_istore_n C (lv' := [some (.ref l0A), some (.int x7), some (.int x5), some (.int l3I), none]) dX2_areTwoHalves_35 rfl (by decide) rfl ?_
          obtain ⟨x8, ex8, h⟩ := wkLt_some h
          refine wk_iinc C (lv' := [some (.ref l0A), some (.int x7), some (.int x5), some (.int x8), none]) dX2_areTwoHalves_36 rfl (by rw [ex8]; rfl) (by decide) rfl ?_
          refine wk_goto C (tgt := 6) dX2_areTwoHalves_39 (by decide) ?_
          exact wk_forget (lv' := [some (.ref l0A), some (.int x7), some (.int x5), some (.int x8), none]) (wkLs.le ⟨rfl, rfl, rfl, rfl, trivial⟩) (ih.1 _ _ _ _ _ hW hE hl0A h)
    · intro l0A l1I l2I l3I S hW hE hl0A h
      have h : rX2_areTwoHalves_b1 F (rX2_areTwoHalves_go F k') l0A l1I l2I l3I S Φ := by
        rw [rX2_areTwoHalves_go, if_neg (show ¬ (1 : Nat) = 0 by decide), if_pos (rfl : (1 : Nat) = 1)] at h
        exact h
      unfold rX2_areTwoHalves_b1 at h
      refine wk_iload_n C dX2_areTwoHalves_44 rfl rfl ?_
      refine wk_aload_n C dX2_areTwoHalves_45 rfl rfl ?_
      refine wk_get C (v := .int (gDrawings_nodeCount S l0A)) huX2_areTwoHalves_2 hl0A.1 (fun cy => wAt_2 cy _ hl0A.2) rfl 8 (by decide) (List.mem_of_getElem? (i := 1) rfl) rfl rfl dX2_areTwoHalves_46 ?_
      refine wk_icmp_ge C (tgt := 91) dX2_areTwoHalves_49 (by decide) (fun c9 => ?_) (fun c9 => ?_)
      · rw [if_pos c9] at h
        refine wk_iload_n C dX2_areTwoHalves_91 rfl rfl ?_
        refine wk_callW C hR (As := [.int l1I]) (cnt := 1) (tJ6_bitCount_0f7a4 (l := l) hW  h) rfl (wkGoodW (List.mem_of_getElem? (i := 3) rfl) (List.mem_of_getElem? (i := 4) rfl) (List.mem_of_getElem? (i := 5) rfl) hbX2_areTwoHalves_J6_bitCount_0f7a4 gdJ6_bitCount_0f7a4) (Nat.le_trans (by decide : 0 + 1 ≤ 1) hd) (by decide) ⟨by decide, by decide, by decide +kernel⟩ rfl rfl (Nat.le_of_ble_eq_true rfl) (Nat.le_refl 0) (Nat.le_refl 0) dX2_areTwoHalves_92 (fun v' S11 hp => ?_)
        obtain ⟨v10, rfl, h, hWS11, hXS11⟩ := hp
        refine wk_iconst C (v := 3) dX2_areTwoHalves_95 (by decide) ?_
        refine wk_icmp_ne C (tgt := 103) dX2_areTwoHalves_96 (by decide) (fun c15 => ?_) (fun c15 => ?_)
        · rw [if_neg c15] at h
          refine wk_iconst C (v := 0) dX2_areTwoHalves_103 (by decide) ?_
          exact E _ _ _ _ _ _ (Nat.le_refl 0) (Nat.le_refl 0) dX2_areTwoHalves_104 rfl ⟨(0 : Int32), rfl, h, hWS11, (wkExt.tr hE hXS11)⟩
        · rw [if_pos c15] at h
          refine wk_iconst C (v := 1) dX2_areTwoHalves_99 (by decide) ?_
          refine wk_goto C (tgt := 104) dX2_areTwoHalves_100 (by decide) ?_
          exact E _ _ _ _ _ _ (Nat.le_refl 0) (Nat.le_refl 0) dX2_areTwoHalves_104 rfl ⟨(1 : Int32), rfl, h, hWS11, (wkExt.tr hE hXS11)⟩
      · rw [if_neg c9] at h
        refine wk_iload_n C dX2_areTwoHalves_52 rfl rfl ?_
        refine wk_iload_n C dX2_areTwoHalves_53 rfl rfl ?_
        refine wk_callN C hR (y := yX11_has) (host := "Witnessworks") (As := [.int l1I, .int l3I]) (cnt := 2) (tX11_has (l := l) hW  h) rfl (fun w h => ⟨hbX2_areTwoHalves_X11_has w h, gdX11_has w h⟩) (by decide +kernel) (List.mem_of_getElem? (i := 6) rfl) (List.mem_of_getElem? (i := 7) rfl) (Nat.le_trans (by decide : 0 + 1 ≤ 1) hd) (by decide) ⟨by decide, by decide, by decide +kernel⟩ rfl rfl (Nat.le_of_ble_eq_true rfl) (Nat.le_refl 0) (Nat.le_refl 0) dX2_areTwoHalves_54 (fun v' S17 hp => ?_)
        obtain ⟨v16, rfl, h, hWS17, hXS17⟩ := hp
        refine wk_if_eq C (tgt := 64) dX2_areTwoHalves_57 (by decide) (fun c21 => ?_) (fun c21 => ?_)
        · rw [if_pos c21] at h
          refine wk_iload_n C dX2_areTwoHalves_64 rfl rfl ?_
          refine wk_iload_n C dX2_areTwoHalves_65 rfl rfl ?_
          refine wk_iconst C (v := (-1)) dX2_areTwoHalves_66 (by decide) ?_
          refine wk_ixor C dX2_areTwoHalves_67 rfl ?_
          refine wk_iand C dX2_areTwoHalves_68 rfl ?_
          obtain ⟨x22, ex22, h⟩ := wkLt_some h
          refine wk_topi ex22 ?_
          refine wk_istore C (lv' := [some (.ref l0A), some (.int l1I), some (.int l2I), some (.int l3I), some (.int x22)]) dX2_areTwoHalves_69 (by decide) rfl ?_
          refine wk_aload_n C dX2_areTwoHalves_71 rfl rfl ?_
          refine wk_get C huX2_areTwoHalves_2 (hXS17 _ _ hl0A).1 (fun cy => wAt_2 cy _ (hXS17 _ _ hl0A).2) rfl 7 (by decide) (List.mem_of_getElem? (i := 2) rfl) rfl (congrArg some (congrArg va_rf (wf_Drawings_ways hWS17 (hXS17 _ _ hl0A)).1)) dX2_areTwoHalves_72 ?_
          refine wk_iload_n C dX2_areTwoHalves_75 rfl rfl ?_
          obtain ⟨i23, h⟩ := h
          refine wk_iald C (wf_Drawings_ways hWS17 (hXS17 _ _ hl0A)).2.1 (wf_Drawings_ways hWS17 (hXS17 _ _ hl0A)).2.2 i23 rfl dX2_areTwoHalves_76 ?_
          refine wk_iload C dX2_areTwoHalves_77 rfl ?_
          refine wk_iand C dX2_areTwoHalves_79 rfl ?_
          refine wk_if_eq C (tgt := 85) dX2_areTwoHalves_80 (by decide) (fun c24 => ?_) (fun c24 => ?_)
          · rw [if_pos c24] at h
            obtain ⟨x25, ex25, h⟩ := wkLt_some h
            refine wk_iinc C (lv' := [some (.ref l0A), some (.int l1I), some (.int l2I), some (.int x25), some (.int x22)]) dX2_areTwoHalves_85 rfl (by rw [ex25]; rfl) (by decide) rfl ?_
            refine wk_goto C (tgt := 44) dX2_areTwoHalves_88 (by decide) ?_
            exact wk_forget (lv' := [some (.ref l0A), some (.int l1I), some (.int l2I), some (.int x25), none]) (wkLs.le ⟨rfl, rfl, rfl, rfl, trivial⟩) (ih.2 _ _ _ _ _ hWS17 (wkExt.tr hE hXS17) (hXS17 _ _ hl0A) h)
          · rw [if_neg c24] at h
            refine wk_iconst C (v := 0) dX2_areTwoHalves_83 (by decide) ?_
            exact E _ _ _ _ _ _ (Nat.le_refl 0) (Nat.le_refl 0) dX2_areTwoHalves_84 rfl ⟨(0 : Int32), rfl, h, hWS17, (wkExt.tr hE hXS17)⟩
        · rw [if_neg c21] at h
          refine wk_iload_n C dX2_areTwoHalves_60 rfl rfl ?_
          refine wk_goto C (tgt := 69) dX2_areTwoHalves_61 (by decide) ?_
          refine wk_istore C (lv' := [some (.ref l0A), some (.int l1I), some (.int l2I), some (.int l3I), some (.int l1I)]) dX2_areTwoHalves_69 (by decide) rfl ?_
          refine wk_aload_n C dX2_areTwoHalves_71 rfl rfl ?_
          refine wk_get C huX2_areTwoHalves_2 (hXS17 _ _ hl0A).1 (fun cy => wAt_2 cy _ (hXS17 _ _ hl0A).2) rfl 7 (by decide) (List.mem_of_getElem? (i := 2) rfl) rfl (congrArg some (congrArg va_rf (wf_Drawings_ways hWS17 (hXS17 _ _ hl0A)).1)) dX2_areTwoHalves_72 ?_
          refine wk_iload_n C dX2_areTwoHalves_75 rfl rfl ?_
          obtain ⟨i26, h⟩ := h
          refine wk_iald C (wf_Drawings_ways hWS17 (hXS17 _ _ hl0A)).2.1 (wf_Drawings_ways hWS17 (hXS17 _ _ hl0A)).2.2 i26 rfl dX2_areTwoHalves_76 ?_
          refine wk_iload C dX2_areTwoHalves_77 rfl ?_
          refine wk_iand C dX2_areTwoHalves_79 rfl ?_
          refine wk_if_eq C (tgt := 85) dX2_areTwoHalves_80 (by decide) (fun c27 => ?_) (fun c27 => ?_)
          · rw [if_pos c27] at h
            obtain ⟨x28, ex28, h⟩ := wkLt_some h
            refine wk_iinc C (lv' := [some (.ref l0A), some (.int l1I), some (.int l2I), some (.int x28), some (.int l1I)]) dX2_areTwoHalves_85 rfl (by rw [ex28]; rfl) (by decide) rfl ?_
            refine wk_goto C (tgt := 44) dX2_areTwoHalves_88 (by decide) ?_
            exact wk_forget (lv' := [some (.ref l0A), some (.int l1I), some (.int l2I), some (.int x28), none]) (wkLs.le ⟨rfl, rfl, rfl, rfl, trivial⟩) (ih.2 _ _ _ _ _ hWS17 (wkExt.tr hE hXS17) (hXS17 _ _ hl0A) h)
          · rw [if_neg c27] at h
            refine wk_iconst C (v := 0) dX2_areTwoHalves_83 (by decide) ?_
            exact E _ _ _ _ _ _ (Nat.le_refl 0) (Nat.le_refl 0) dX2_areTwoHalves_84 rfl ⟨(0 : Int32), rfl, h, hWS17, (wkExt.tr hE hXS17)⟩
set_option maxHeartbeats 4000000 in
set_option maxRecDepth 100000 in
theorem tX2_areTwoHalves {l : Launch} {g : wkG} {F : Nat}  {S : wPS} {l0A : Nat} {Φ : (Int32 → wPS → Prop)} (hW : wkWF S) (hl0A : wkIs S l0A 2) (h : rX2_areTwoHalves F l0A S Φ) : wkMet l g yX2_areTwoHalves wvX2_areTwoHalves 1 0 0 [.ref l0A] S (fun v' S'' => ∃ v : Int32, v' = some (.int v) ∧ Φ v S'' ∧ wkWF S'' ∧ wkExt S S'') := by
  refine wkMet_of (ret := (some .boolean)) (by decide) rfl (Nat.le_of_ble_eq_true rfl) (fun X hg C hR E => ?_)
  subst hg
  have hE : wkExt S S := wkExt.rf
  have hd : 1 ≤ 1 := Nat.le_refl _
  show wkGo l X 5 0 0 0 S [some (.ref l0A), none, none, none, none] []
  have ih := tX2_areTwoHalves_go (F := F) C hR hd E F
  have h : rX2_areTwoHalves_s F (rX2_areTwoHalves_go F F) l0A S Φ := h
  unfold rX2_areTwoHalves_s at h
  refine wk_iconst C (v := 0) dX2_areTwoHalves_0 (by decide) ?_
  refine wk_istore_n C (lv' := [some (.ref l0A), some (.int (0 : Int32)), none, none, none]) dX2_areTwoHalves_1 rfl (by decide) rfl ?_
  refine wk_iconst C (v := 0) dX2_areTwoHalves_2 (by decide) ?_
  refine wk_istore_n C (lv' := [some (.ref l0A), some (.int (0 : Int32)), some (.int (0 : Int32)), none, none]) dX2_areTwoHalves_3 rfl (by decide) rfl ?_
  refine wk_iconst C (v := 0) dX2_areTwoHalves_4 (by decide) ?_
  refine wk_istore_n C (lv' := [some (.ref l0A), some (.int (0 : Int32)), some (.int (0 : Int32)), some (.int (0 : Int32)), none]) dX2_areTwoHalves_5 rfl (by decide) rfl ?_
  exact wk_forget (lv' := [some (.ref l0A), some (.int (0 : Int32)), some (.int (0 : Int32)), some (.int (0 : Int32)), none]) (wkLs.le ⟨rfl, rfl, rfl, rfl, trivial⟩) (ih.1 _ _ _ _ _ hW hE hl0A h)
def wvX3_init : List Cond := .code yX3_init cX3_init 1 none :: (([.methodLink RX3 3 objectInit, .instanceMethod objectInit, .code objectInit ⟨#[0xb1]⟩ 1 none, .fieldLink RX3 9 "Witnessworks$Entry" "leaning" "I", .fieldLink RX3 15 "Witnessworks$Entry" "origin" "I", .arrayClass .int, .fieldLink RX3 18 "Witnessworks$Entry" "numbers" "[I", .fieldLink RX3 22 "Witnessworks$Entry" "reply" "C", .classLink RX3 26 RX9, .instantiable RX9 2, .initialized RX9, .instanceMethod yX9_init, .fieldLink RX3 29 "Witnessworks$Entry" "row" "LWitnessworks$Row;", .fieldLink RX3 33 "Witnessworks$Entry" "settledReply" "C", .fieldLink RX3 36 "Witnessworks$Entry" "settledRow" "LWitnessworks$Row;"] : List Cond) ++ ((wsX30 ++ (wsX90)) ++ (wvX9_init)))
theorem huX3_init_3 : ∀ w ∈ u_ws RX3 TX3 17, w ∈ wvX3_init := fun w h => List.mem_cons_of_mem _ (List.mem_append_right _ (List.mem_append_left _ (List.mem_append_left _ h)))
theorem huX3_init_9 : ∀ w ∈ u_ws RX9 TX9 2, w ∈ wvX3_init := fun w h => List.mem_cons_of_mem _ (List.mem_append_right _ (List.mem_append_left _ (List.mem_append_right _ h)))
theorem hbX3_init_X9_init : ∀ w ∈ wvX9_init, w ∈ wvX3_init := fun w h => List.mem_cons_of_mem _ (List.mem_append_right _ (List.mem_append_right _ h))
theorem gdX3_init : ∀ w ∈ wvX3_init, wkGd w := wkGdC rfl (wkGdA (wkGdL (by decide +kernel)) (wkGdA (wkGdA gdX3 gdX9) gdX9_init))
def rX3_init (F : Nat) (k n : Nat) (l0A : Nat) (S : wPS) (Φ : (Unit → wPS → Prop)) : Prop :=
  wkLt (wu_Entry_leaning S l0A (-1 : Int32)) fun S1 => wkLt (wu_Entry_origin S1 l0A (-1 : Int32)) fun S2 => ¬ (80 : Int32) < 0 ∧ 0 + 1 ≤ k ∧ 0 + ((80 : Int32)).toNatClampNeg ≤ n ∧ ((80 : Int32)).toNatClampNeg * 4 ≤ 536870912 ∧ ∀ q4 : Nat, ¬ q4 ∈ S2.L → wkLt (wnI S2 q4 13 ((80 : Int32)).toNatClampNeg (fun _ => 0)) fun S5 => wkLt (wu_Entry_numbers S5 l0A (some q4)) fun S6 => (((110 : Int32) : Int32).toUInt32 % 65536).toInt32 = (110 : Int32) ∧ wkLt (wu_Entry_reply S6 l0A (110 : Int32)) fun S8 => (0 + 1) + 1 ≤ k ∧ (0 + ((80 : Int32)).toNatClampNeg) + 2 ≤ n ∧ ∀ q10 : Nat, ¬ q10 ∈ S8.L → wkLt (wnO S8 q10 9) fun S11 => ∃ k14 n15 : Nat, ((0 + 1) + 1) + k14 ≤ k ∧ ((0 + ((80 : Int32)).toNatClampNeg) + 2) + n15 ≤ n ∧ rX9_init F k14 n15 q10 S11 fun v12 S13 => wkLt (wu_Entry_row S13 l0A (some q10)) fun S16 => (((110 : Int32) : Int32).toUInt32 % 65536).toInt32 = (110 : Int32) ∧ wkLt (wu_Entry_settledReply S16 l0A (110 : Int32)) fun S18 => (((0 + 1) + 1) + k14) + 1 ≤ k ∧ (((0 + ((80 : Int32)).toNatClampNeg) + 2) + n15) + 2 ≤ n ∧ ∀ q20 : Nat, ¬ q20 ∈ S18.L → wkLt (wnO S18 q20 9) fun S21 => ∃ k24 n25 : Nat, ((((0 + 1) + 1) + k14) + 1) + k24 ≤ k ∧ ((((0 + ((80 : Int32)).toNatClampNeg) + 2) + n15) + 2) + n25 ≤ n ∧ rX9_init F k24 n25 q20 S21 fun v22 S23 => wkLt (wu_Entry_settledRow S23 l0A (some q20)) fun S26 => Φ () S26
set_option maxHeartbeats 4000000 in
set_option maxRecDepth 100000 in
theorem tX3_init {l : Launch} {g : wkG} {F : Nat} {k n : Nat}  {S : wPS} {l0A : Nat} {Φ : (Unit → wPS → Prop)} (hW : wkTT S) (hl0A : wkIs S l0A 3) (h : rX3_init F k n l0A S Φ) : wkMet l g yX3_init wvX3_init 2 k n [.ref l0A] S (fun v' S'' => ∃ v : Unit, v' = none ∧ Φ v S'' ∧ wkTT S'' ∧ wkExt S S'') := by
  refine wkMet_ofI (ret := none) (plainFor_of_name (by decide)) rfl rfl (Nat.le_of_ble_eq_true rfl) (fun X hg C hR hI0 E => ?_)
  subst hg
  have hE : wkExt S S := wkExt.rf
  have hd : 2 ≤ 2 := Nat.le_refl _
  show wkGo l X 1 0 0 0 S [some (.ref l0A)] []
  unfold rX3_init at h
  refine wk_aload_n C dX3_init_0 rfl rfl ?_
  refine wk_objInit C hR (List.mem_of_getElem? (i := 1) rfl) (List.mem_of_getElem? (i := 2) rfl) (List.mem_of_getElem? (i := 3) rfl) (Nat.le_trans (by decide) hd) (Nat.le_of_ble_eq_true rfl) dX3_init_1 ?_
  refine wk_aload_n C dX3_init_4 rfl rfl ?_
  refine wk_iconst C (v := (-1)) dX3_init_5 (by decide) ?_
  obtain ⟨S1, eS1, h⟩ := wkLt_some h
  refine wk_put C (S' := S1) huX3_init_3 hl0A.1 (fun cy => wAt_3 cy _ hl0A.2) rfl 3 (by decide) (List.mem_of_getElem? (i := 4) rfl) rfl tyX3_ok nmX3 rfl (ty := .int) rfl rfl rfl (by show 3 < 17; decide) (fun cy b => by rw [eS1]; exact wSt_3_3 cy _ hl0A.2 _ b) (by rw [eS1]) dX3_init_6 ?_
  have hWS1 : wkTT S1 := trivial
  have hXS1 : wkExt S S1 := by rw [eS1]; exact wkExt.rf
  refine wk_aload_n C dX3_init_9 rfl rfl ?_
  refine wk_iconst C (v := (-1)) dX3_init_10 (by decide) ?_
  obtain ⟨S2, eS2, h⟩ := wkLt_some h
  refine wk_put C (S' := S2) huX3_init_3 (hXS1 _ _ hl0A).1 (fun cy => wAt_3 cy _ (hXS1 _ _ hl0A).2) rfl 5 (by decide) (List.mem_of_getElem? (i := 5) rfl) rfl tyX3_ok nmX3 rfl (ty := .int) rfl rfl rfl (by show 5 < 17; decide) (fun cy b => by rw [eS2]; exact wSt_3_5 cy _ (hXS1 _ _ hl0A).2 _ b) (by rw [eS2]) dX3_init_11 ?_
  have hWS2 : wkTT S2 := trivial
  have hXS2 : wkExt S1 S2 := by rw [eS2]; exact wkExt.rf
  refine wk_aload_n C dX3_init_14 rfl rfl ?_
  refine wk_bipush C (v := 80) dX3_init_15 (by decide) ?_
  obtain ⟨h3a, h3b, h3c, h3d, h⟩ := h
  refine wk_newI C hR (List.mem_of_getElem? (i := 6) rfl) h3a h3b h3c h3d dX3_init_17 (fun q4 h3e => ?_)
  obtain ⟨S5, eS5, h⟩ := wkLt_some (h q4 h3e)
  rw [← eS5]
  obtain ⟨hXS5, hIS5⟩ := wkExt_newI eS5 h3e
  have hWS5 : wkTT S5 := trivial
  obtain ⟨S6, eS6, h⟩ := wkLt_some h
  refine wk_putF C hI0 (S' := S6) huX3_init_3 (hXS5 _ _ (hXS2 _ _ (hXS1 _ _ hl0A))).1 (fun cy => wAt_3 cy _ (hXS5 _ _ (hXS2 _ _ (hXS1 _ _ hl0A))).2) rfl 7 (by decide) (List.mem_of_getElem? (i := 7) rfl) rfl tyX3_ok nmX3 rfl rfl (ty := (.array .int)) rfl rfl rfl (by show 7 < 17; decide) (fun cy b => by rw [eS6]; exact wSt_3_7 cy _ (hXS5 _ _ (hXS2 _ _ (hXS1 _ _ hl0A))).2 (some q4) b) (by rw [eS6]) dX3_init_19 ?_
  have hWS6 : wkTT S6 := trivial
  have hXS6 : wkExt S5 S6 := by rw [eS6]; exact wkExt.rf
  refine wk_aload_n C dX3_init_22 rfl rfl ?_
  refine wk_bipush C (v := 110) dX3_init_23 (by decide) ?_
  obtain ⟨b7, h⟩ := h
  obtain ⟨S8, eS8, h⟩ := wkLt_some h
  refine wk_put C (S' := S8) huX3_init_3 (hXS6 _ _ (hXS5 _ _ (hXS2 _ _ (hXS1 _ _ hl0A)))).1 (fun cy => wAt_3 cy _ (hXS6 _ _ (hXS5 _ _ (hXS2 _ _ (hXS1 _ _ hl0A)))).2) rfl 11 (by decide) (List.mem_of_getElem? (i := 8) rfl) rfl tyX3_ok nmX3 rfl (ty := .char) rfl (wkNarC b7) (wkFitC b7) (by show 11 < 17; decide) (fun cy b => by rw [eS8]; exact wSt_3_11 cy _ (hXS6 _ _ (hXS5 _ _ (hXS2 _ _ (hXS1 _ _ hl0A)))).2 _ b) (by rw [eS8]) dX3_init_25 ?_
  have hWS8 : wkTT S8 := trivial
  have hXS8 : wkExt S6 S8 := by rw [eS8]; exact wkExt.rf
  refine wk_aload_n C dX3_init_28 rfl rfl ?_
  obtain ⟨h9b, h9c, h⟩ := h
  refine wk_newO C hR huX3_init_9 (List.mem_of_getElem? (i := 9) rfl) (List.mem_of_getElem? (i := 10) rfl) (List.mem_of_getElem? (i := 11) rfl) rfl tyX9_ok (by decide) (fun cy S a b => wNw_9 cy S a b) h9b h9c dX3_init_29 (fun q10 h9e => ?_)
  obtain ⟨S11, eS11, h⟩ := wkLt_some (h q10 h9e)
  rw [← eS11]
  obtain ⟨hXS11, hIS11⟩ := wkExt_newO eS11 h9e
  have hWS11 : wkTT S11 := trivial
  refine wk_dup C dX3_init_32 rfl ?_
  obtain ⟨k14, n15, hk14, hn15, h⟩ := h
  refine wk_callI C hR (y := yX9_init) (host := "Witnessworks") (As := []) (cnt := 0) (tX9_init (l := l) hWS11 hIS11 h) rfl (fun w h => ⟨hbX3_init_X9_init w h, gdX9_init w h⟩) (by decide +kernel) rfl (List.mem_of_getElem? (i := 12) rfl) (List.mem_of_getElem? (i := 11) rfl) (Nat.le_trans (by decide : 1 + 1 ≤ 2) hd) (by decide) ⟨by decide, by decide, by decide +kernel⟩ rfl rfl (Nat.le_of_ble_eq_true rfl) hk14 hn15 dX3_init_33 (fun v' S13 hp => ?_)
  obtain ⟨v12, rfl, h, hWS13, hXS13⟩ := hp
  obtain ⟨S16, eS16, h⟩ := wkLt_some h
  refine wk_putF C hI0 (S' := S16) huX3_init_3 (hXS13 _ _ (hXS11 _ _ (hXS8 _ _ (hXS6 _ _ (hXS5 _ _ (hXS2 _ _ (hXS1 _ _ hl0A))))))).1 (fun cy => wAt_3 cy _ (hXS13 _ _ (hXS11 _ _ (hXS8 _ _ (hXS6 _ _ (hXS5 _ _ (hXS2 _ _ (hXS1 _ _ hl0A))))))).2) rfl 13 (by decide) (List.mem_of_getElem? (i := 13) rfl) rfl tyX3_ok nmX3 rfl rfl (ty := (.object "Witnessworks$Row")) rfl rfl rfl (by show 13 < 17; decide) (fun cy b => by rw [eS16]; exact wSt_3_13 cy _ (hXS13 _ _ (hXS11 _ _ (hXS8 _ _ (hXS6 _ _ (hXS5 _ _ (hXS2 _ _ (hXS1 _ _ hl0A))))))).2 (some q10) b) (by rw [eS16]) dX3_init_36 ?_
  have hWS16 : wkTT S16 := trivial
  have hXS16 : wkExt S13 S16 := by rw [eS16]; exact wkExt.rf
  refine wk_aload_n C dX3_init_39 rfl rfl ?_
  refine wk_bipush C (v := 110) dX3_init_40 (by decide) ?_
  obtain ⟨b17, h⟩ := h
  obtain ⟨S18, eS18, h⟩ := wkLt_some h
  refine wk_put C (S' := S18) huX3_init_3 (hXS16 _ _ (hXS13 _ _ (hXS11 _ _ (hXS8 _ _ (hXS6 _ _ (hXS5 _ _ (hXS2 _ _ (hXS1 _ _ hl0A)))))))).1 (fun cy => wAt_3 cy _ (hXS16 _ _ (hXS13 _ _ (hXS11 _ _ (hXS8 _ _ (hXS6 _ _ (hXS5 _ _ (hXS2 _ _ (hXS1 _ _ hl0A)))))))).2) rfl 15 (by decide) (List.mem_of_getElem? (i := 14) rfl) rfl tyX3_ok nmX3 rfl (ty := .char) rfl (wkNarC b17) (wkFitC b17) (by show 15 < 17; decide) (fun cy b => by rw [eS18]; exact wSt_3_15 cy _ (hXS16 _ _ (hXS13 _ _ (hXS11 _ _ (hXS8 _ _ (hXS6 _ _ (hXS5 _ _ (hXS2 _ _ (hXS1 _ _ hl0A)))))))).2 _ b) (by rw [eS18]) dX3_init_42 ?_
  have hWS18 : wkTT S18 := trivial
  have hXS18 : wkExt S16 S18 := by rw [eS18]; exact wkExt.rf
  refine wk_aload_n C dX3_init_45 rfl rfl ?_
  obtain ⟨h19b, h19c, h⟩ := h
  refine wk_newO C hR huX3_init_9 (List.mem_of_getElem? (i := 9) rfl) (List.mem_of_getElem? (i := 10) rfl) (List.mem_of_getElem? (i := 11) rfl) rfl tyX9_ok (by decide) (fun cy S a b => wNw_9 cy S a b) h19b h19c dX3_init_46 (fun q20 h19e => ?_)
  obtain ⟨S21, eS21, h⟩ := wkLt_some (h q20 h19e)
  rw [← eS21]
  obtain ⟨hXS21, hIS21⟩ := wkExt_newO eS21 h19e
  have hWS21 : wkTT S21 := trivial
  refine wk_dup C dX3_init_49 rfl ?_
  obtain ⟨k24, n25, hk24, hn25, h⟩ := h
  refine wk_callI C hR (y := yX9_init) (host := "Witnessworks") (As := []) (cnt := 0) (tX9_init (l := l) hWS21 hIS21 h) rfl (fun w h => ⟨hbX3_init_X9_init w h, gdX9_init w h⟩) (by decide +kernel) rfl (List.mem_of_getElem? (i := 12) rfl) (List.mem_of_getElem? (i := 11) rfl) (Nat.le_trans (by decide : 1 + 1 ≤ 2) hd) (by decide) ⟨by decide, by decide, by decide +kernel⟩ rfl rfl (Nat.le_of_ble_eq_true rfl) hk24 hn25 dX3_init_50 (fun v' S23 hp => ?_)
  obtain ⟨v22, rfl, h, hWS23, hXS23⟩ := hp
  obtain ⟨S26, eS26, h⟩ := wkLt_some h
  refine wk_putF C hI0 (S' := S26) huX3_init_3 (hXS23 _ _ (hXS21 _ _ (hXS18 _ _ (hXS16 _ _ (hXS13 _ _ (hXS11 _ _ (hXS8 _ _ (hXS6 _ _ (hXS5 _ _ (hXS2 _ _ (hXS1 _ _ hl0A))))))))))).1 (fun cy => wAt_3 cy _ (hXS23 _ _ (hXS21 _ _ (hXS18 _ _ (hXS16 _ _ (hXS13 _ _ (hXS11 _ _ (hXS8 _ _ (hXS6 _ _ (hXS5 _ _ (hXS2 _ _ (hXS1 _ _ hl0A))))))))))).2) rfl 16 (by decide) (List.mem_of_getElem? (i := 15) rfl) rfl tyX3_ok nmX3 rfl rfl (ty := (.object "Witnessworks$Row")) rfl rfl rfl (by show 16 < 17; decide) (fun cy b => by rw [eS26]; exact wSt_3_16 cy _ (hXS23 _ _ (hXS21 _ _ (hXS18 _ _ (hXS16 _ _ (hXS13 _ _ (hXS11 _ _ (hXS8 _ _ (hXS6 _ _ (hXS5 _ _ (hXS2 _ _ (hXS1 _ _ hl0A))))))))))).2 (some q20) b) (by rw [eS26]) dX3_init_53 ?_
  have hWS26 : wkTT S26 := trivial
  have hXS26 : wkExt S23 S26 := by rw [eS26]; exact wkExt.rf
  exact E _ _ _ _ _ hk24 hn25 dX3_init_56 ⟨(), rfl, h, hWS26, (wkExt.tr (wkExt.tr (wkExt.tr (wkExt.tr (wkExt.tr (wkExt.tr (wkExt.tr (wkExt.tr (wkExt.tr (wkExt.tr (wkExt.tr (wkExt.tr hE hXS1) hXS2) hXS5) hXS6) hXS8) hXS11) hXS13) hXS16) hXS18) hXS21) hXS23) hXS26)⟩
def wvX3_fillNear : List Cond := .code yX3_fillNear cX3_fillNear 4 none :: (([.fieldLink RX3 54 "Witnessworks$Entry" "itemCount" "I", .static yX11_has, .initialized RX11, .methodLink RX3 70 yX3_at, .instanceMethod yX3_at, .selects RX3 yX3_at yX3_at, .initialized RX3, .methodLink RX3 74 yJ7_fill_53178, .static yJ7_fill_53178, .initialized RJ7] : List Cond) ++ ((wsX30) ++ (wvX11_has ++ (wvX3_at ++ (wvJ7_fill_53178)))))
theorem huX3_fillNear_3 : ∀ w ∈ u_ws RX3 TX3 17, w ∈ wvX3_fillNear := fun w h => List.mem_cons_of_mem _ (List.mem_append_right _ (List.mem_append_left _ h))
theorem hbX3_fillNear_X11_has : ∀ w ∈ wvX11_has, w ∈ wvX3_fillNear := fun w h => List.mem_cons_of_mem _ (List.mem_append_right _ (List.mem_append_right _ (List.mem_append_left _ h)))
theorem hbX3_fillNear_X3_at : ∀ w ∈ wvX3_at, w ∈ wvX3_fillNear := fun w h => List.mem_cons_of_mem _ (List.mem_append_right _ (List.mem_append_right _ (List.mem_append_right _ (List.mem_append_left _ h))))
theorem hbX3_fillNear_J7_fill_53178 : ∀ w ∈ wvJ7_fill_53178, w ∈ wvX3_fillNear := fun w h => List.mem_cons_of_mem _ (List.mem_append_right _ (List.mem_append_right _ (List.mem_append_right _ (List.mem_append_right _ h))))
theorem gdX3_fillNear : ∀ w ∈ wvX3_fillNear, wkGd w := wkGdC rfl (wkGdA (wkGdL (by decide +kernel)) (wkGdA gdX3 (wkGdA gdX11_has (wkGdA gdX3_at gdJ7_fill_53178))))
def rX3_fillNear_b0 (F : Nat) (rec : Nat → Nat → Nat → Int32 → Int32 → wPS → (Unit → wPS → Prop) → Prop) (l0A : Nat) (l1A : Nat) (l2I : Int32) (l3I : Int32) (S : wPS) (Φ : (Unit → wPS → Prop)) : Prop :=
  if (gEntry_itemCount S l0A) ≤ l3I then (Φ () S) else (rX11_has F l2I l3I S fun v2 S3 => if v2 = 0 then (wkLt (l3I + (1 : Int32)) fun x8 => rec 0 l0A l1A l2I x8 S3 Φ) else (rX3_at F l0A l3I (0 : Int32) S3 fun v9 S10 => ¬ (v9 < 0 ∨ S10.len l1A ≤ (v9).toNatClampNeg) ∧ rX3_at F l0A l3I (1 : Int32) S10 fun v15 S16 => ¬ (v9 < 0 ∨ S16.len l1A ≤ (v9).toNatClampNeg) ∧ wkLt (wuI S16 l1A v9 ((S10.rI l1A (v9).toNatClampNeg) ||| ((1 : Int32) <<< (v15 &&& 31)))) fun S21 => rX3_at F l0A l3I (1 : Int32) S21 fun v22 S23 => ¬ (v22 < 0 ∨ S23.len l1A ≤ (v22).toNatClampNeg) ∧ rX3_at F l0A l3I (0 : Int32) S23 fun v28 S29 => ¬ (v22 < 0 ∨ S29.len l1A ≤ (v22).toNatClampNeg) ∧ wkLt (wuI S29 l1A v22 ((S23.rI l1A (v22).toNatClampNeg) ||| ((1 : Int32) <<< (v28 &&& 31)))) fun S34 => wkLt (l3I + (1 : Int32)) fun x35 => rec 0 l0A l1A l2I x35 S34 Φ))
def rX3_fillNear_go (F : Nat) : Nat → Nat → Nat → Nat → Int32 → Int32 → wPS → (Unit → wPS → Prop) → Prop
  | 0, _, _, _, _, _, _, _ => False
  | k' + 1, lab, l0A, l1A, l2I, l3I, S, Φ => if lab = 0 then rX3_fillNear_b0 F (rX3_fillNear_go F k') l0A l1A l2I l3I S Φ else False
def rX3_fillNear_s (F : Nat) (rec : Nat → Nat → Nat → Int32 → Int32 → wPS → (Unit → wPS → Prop) → Prop) (l0A : Nat) (l1A : Nat) (l2I : Int32) (S : wPS) (Φ : (Unit → wPS → Prop)) : Prop :=
  rJ7_fill_53178 F l1A (0 : Int32) S fun v36 S37 => rec 0 l0A l1A l2I (0 : Int32) S37 Φ
def rX3_fillNear (F : Nat) (l0A : Nat) (l1A : Nat) (l2I : Int32) (S : wPS) (Φ : (Unit → wPS → Prop)) : Prop := rX3_fillNear_s F (rX3_fillNear_go F F) l0A l1A l2I S Φ
set_option maxHeartbeats 4000000 in
set_option maxRecDepth 100000 in
theorem tX3_fillNear_go {l : Launch} {X : wkX} {d F : Nat} {S0 : wPS} {Φ : (Unit → wPS → Prop)} (C : wkC X cX3_fillNear RX3 4 wvX3_fillNear) (hR : wkRm X d 0 0) (hd : 1 ≤ d) (E : wkEnd l X cX3_fillNear 4 none 0 0 (fun v' S'' => ∃ v : Unit, v' = none ∧ Φ v S'' ∧ wkWF S'' ∧ wkExt S0 S'')) : ∀ k' : Nat, (∀ (l0A : Nat) (l1A : Nat) (l2I : Int32) (l3I : Int32) (S : wPS), wkWF S → wkExt S0 S → wkIs S l0A 3 → wkIs S l1A 13 → rX3_fillNear_go F k' 0 l0A l1A l2I l3I S Φ → wkGo l X 4 0 0 7 S [some (.ref l0A), some (.ref l1A), some (.int l2I), some (.int l3I)] []) := by
  intro k'
  induction k' with
  | zero => exact fun l0A l1A l2I l3I S hW hE hl0A hl1A h => h.elim
  | succ k' ih =>
    · intro l0A l1A l2I l3I S hW hE hl0A hl1A h
      have h : rX3_fillNear_b0 F (rX3_fillNear_go F k') l0A l1A l2I l3I S Φ := by
        rw [rX3_fillNear_go, if_pos (rfl : (0 : Nat) = 0)] at h
        exact h
      unfold rX3_fillNear_b0 at h
      refine wk_iload_n C dX3_fillNear_7 rfl rfl ?_
      refine wk_aload_n C dX3_fillNear_8 rfl rfl ?_
      refine wk_get C (v := .int (gEntry_itemCount S l0A)) huX3_fillNear_3 hl0A.1 (fun cy => wAt_3 cy _ hl0A.2) rfl 6 (by decide) (List.mem_of_getElem? (i := 1) rfl) rfl rfl dX3_fillNear_9 ?_
      refine wk_icmp_ge C (tgt := 67) dX3_fillNear_12 (by decide) (fun c1 => ?_) (fun c1 => ?_)
      · rw [if_pos c1] at h
        exact E _ _ _ _ _ (Nat.le_refl 0) (Nat.le_refl 0) dX3_fillNear_67 ⟨(), rfl, h, hW, hE⟩
      · rw [if_neg c1] at h
        refine wk_iload_n C dX3_fillNear_15 rfl rfl ?_
        refine wk_iload_n C dX3_fillNear_16 rfl rfl ?_
        refine wk_callN C hR (y := yX11_has) (host := "Witnessworks") (As := [.int l2I, .int l3I]) (cnt := 2) (tX11_has (l := l) hW  h) rfl (fun w h => ⟨hbX3_fillNear_X11_has w h, gdX11_has w h⟩) (by decide +kernel) (List.mem_of_getElem? (i := 2) rfl) (List.mem_of_getElem? (i := 3) rfl) (Nat.le_trans (by decide : 0 + 1 ≤ 1) hd) (by decide) ⟨by decide, by decide, by decide +kernel⟩ rfl rfl (Nat.le_of_ble_eq_true rfl) (Nat.le_refl 0) (Nat.le_refl 0) dX3_fillNear_17 (fun v' S3 hp => ?_)
        obtain ⟨v2, rfl, h, hWS3, hXS3⟩ := hp
        refine wk_if_eq C (tgt := 61) dX3_fillNear_20 (by decide) (fun c7 => ?_) (fun c7 => ?_)
        · rw [if_pos c7] at h
          obtain ⟨x8, ex8, h⟩ := wkLt_some h
          refine wk_iinc C (lv' := [some (.ref l0A), some (.ref l1A), some (.int l2I), some (.int x8)]) dX3_fillNear_61 rfl (by rw [ex8]; rfl) (by decide) rfl ?_
          refine wk_goto C (tgt := 7) dX3_fillNear_64 (by decide) ?_
          exact wk_forget (lv' := [some (.ref l0A), some (.ref l1A), some (.int l2I), some (.int x8)]) (wkLs.le ⟨rfl, rfl, rfl, rfl, trivial⟩) (ih _ _ _ _ _ hWS3 (wkExt.tr hE hXS3) (hXS3 _ _ hl0A) (hXS3 _ _ hl1A) h)
        · rw [if_neg c7] at h
          refine wk_aload_n C dX3_fillNear_23 rfl rfl ?_
          refine wk_aload_n C dX3_fillNear_24 rfl rfl ?_
          refine wk_iload_n C dX3_fillNear_25 rfl rfl ?_
          refine wk_iconst C (v := 0) dX3_fillNear_26 (by decide) ?_
          refine wk_callV C hR (As := [.int l3I, .int (0 : Int32)]) (cnt := 2) (tX3_at (l := l) hWS3 (hXS3 _ _ hl0A) h) rfl (wkGoodV (List.mem_of_getElem? (i := 4) rfl) (List.mem_of_getElem? (i := 5) rfl) (List.mem_of_getElem? (i := 6) rfl) (List.mem_of_getElem? (i := 7) rfl) hbX3_fillNear_X3_at gdX3_at) (Nat.le_trans (by decide : 0 + 1 ≤ 1) hd) (by decide) (hXS3 _ _ hl0A).1 (fun cy => wAt_3 cy _ (hXS3 _ _ hl0A).2) rfl ⟨by decide, by decide, by decide +kernel⟩ rfl rfl (Nat.le_of_ble_eq_true rfl) (Nat.le_refl 0) (Nat.le_refl 0) dX3_fillNear_27 (fun v' S10 hp => ?_)
          obtain ⟨v9, rfl, h, hWS10, hXS10⟩ := hp
          refine wk_dup2 C dX3_fillNear_30 rfl rfl ?_
          obtain ⟨i14, h⟩ := h
          refine wk_iald C (hXS10 _ _ (hXS3 _ _ hl1A)).1 (hXS10 _ _ (hXS3 _ _ hl1A)).2 i14 rfl dX3_fillNear_31 ?_
          refine wk_iconst C (v := 1) dX3_fillNear_32 (by decide) ?_
          refine wk_aload_n C dX3_fillNear_33 rfl rfl ?_
          refine wk_iload_n C dX3_fillNear_34 rfl rfl ?_
          refine wk_iconst C (v := 1) dX3_fillNear_35 (by decide) ?_
          refine wk_callV C hR (As := [.int l3I, .int (1 : Int32)]) (cnt := 2) (tX3_at (l := l) hWS10 (hXS10 _ _ (hXS3 _ _ hl0A)) h) rfl (wkGoodV (List.mem_of_getElem? (i := 4) rfl) (List.mem_of_getElem? (i := 5) rfl) (List.mem_of_getElem? (i := 6) rfl) (List.mem_of_getElem? (i := 7) rfl) hbX3_fillNear_X3_at gdX3_at) (Nat.le_trans (by decide : 0 + 1 ≤ 1) hd) (by decide) (hXS10 _ _ (hXS3 _ _ hl0A)).1 (fun cy => wAt_3 cy _ (hXS10 _ _ (hXS3 _ _ hl0A)).2) rfl ⟨by decide, by decide, by decide +kernel⟩ rfl rfl (Nat.le_of_ble_eq_true rfl) (Nat.le_refl 0) (Nat.le_refl 0) dX3_fillNear_36 (fun v' S16 hp => ?_)
          obtain ⟨v15, rfl, h, hWS16, hXS16⟩ := hp
          refine wk_ishl C dX3_fillNear_39 rfl ?_
          refine wk_ior C dX3_fillNear_40 rfl ?_
          obtain ⟨i20, h⟩ := h
          obtain ⟨S21, eS21, h⟩ := wkLt_some h
          refine wk_iast C (hXS16 _ _ (hXS10 _ _ (hXS3 _ _ hl1A))).1 (hXS16 _ _ (hXS10 _ _ (hXS3 _ _ hl1A))).2 i20 eS21.symm dX3_fillNear_41 ?_
          have hWS21 : wkWF S21 := by rw [eS21]; exact hWS16
          have hXS21 : wkExt S16 S21 := by rw [eS21]; exact wkExt.rf
          refine wk_aload_n C dX3_fillNear_42 rfl rfl ?_
          refine wk_aload_n C dX3_fillNear_43 rfl rfl ?_
          refine wk_iload_n C dX3_fillNear_44 rfl rfl ?_
          refine wk_iconst C (v := 1) dX3_fillNear_45 (by decide) ?_
          refine wk_callV C hR (As := [.int l3I, .int (1 : Int32)]) (cnt := 2) (tX3_at (l := l) hWS21 (hXS21 _ _ (hXS16 _ _ (hXS10 _ _ (hXS3 _ _ hl0A)))) h) rfl (wkGoodV (List.mem_of_getElem? (i := 4) rfl) (List.mem_of_getElem? (i := 5) rfl) (List.mem_of_getElem? (i := 6) rfl) (List.mem_of_getElem? (i := 7) rfl) hbX3_fillNear_X3_at gdX3_at) (Nat.le_trans (by decide : 0 + 1 ≤ 1) hd) (by decide) (hXS21 _ _ (hXS16 _ _ (hXS10 _ _ (hXS3 _ _ hl0A)))).1 (fun cy => wAt_3 cy _ (hXS21 _ _ (hXS16 _ _ (hXS10 _ _ (hXS3 _ _ hl0A)))).2) rfl ⟨by decide, by decide, by decide +kernel⟩ rfl rfl (Nat.le_of_ble_eq_true rfl) (Nat.le_refl 0) (Nat.le_refl 0) dX3_fillNear_46 (fun v' S23 hp => ?_)
          obtain ⟨v22, rfl, h, hWS23, hXS23⟩ := hp
          refine wk_dup2 C dX3_fillNear_49 rfl rfl ?_
          obtain ⟨i27, h⟩ := h
          refine wk_iald C (hXS23 _ _ (hXS21 _ _ (hXS16 _ _ (hXS10 _ _ (hXS3 _ _ hl1A))))).1 (hXS23 _ _ (hXS21 _ _ (hXS16 _ _ (hXS10 _ _ (hXS3 _ _ hl1A))))).2 i27 rfl dX3_fillNear_50 ?_
          refine wk_iconst C (v := 1) dX3_fillNear_51 (by decide) ?_
          refine wk_aload_n C dX3_fillNear_52 rfl rfl ?_
          refine wk_iload_n C dX3_fillNear_53 rfl rfl ?_
          refine wk_iconst C (v := 0) dX3_fillNear_54 (by decide) ?_
          refine wk_callV C hR (As := [.int l3I, .int (0 : Int32)]) (cnt := 2) (tX3_at (l := l) hWS23 (hXS23 _ _ (hXS21 _ _ (hXS16 _ _ (hXS10 _ _ (hXS3 _ _ hl0A))))) h) rfl (wkGoodV (List.mem_of_getElem? (i := 4) rfl) (List.mem_of_getElem? (i := 5) rfl) (List.mem_of_getElem? (i := 6) rfl) (List.mem_of_getElem? (i := 7) rfl) hbX3_fillNear_X3_at gdX3_at) (Nat.le_trans (by decide : 0 + 1 ≤ 1) hd) (by decide) (hXS23 _ _ (hXS21 _ _ (hXS16 _ _ (hXS10 _ _ (hXS3 _ _ hl0A))))).1 (fun cy => wAt_3 cy _ (hXS23 _ _ (hXS21 _ _ (hXS16 _ _ (hXS10 _ _ (hXS3 _ _ hl0A))))).2) rfl ⟨by decide, by decide, by decide +kernel⟩ rfl rfl (Nat.le_of_ble_eq_true rfl) (Nat.le_refl 0) (Nat.le_refl 0) dX3_fillNear_55 (fun v' S29 hp => ?_)
          obtain ⟨v28, rfl, h, hWS29, hXS29⟩ := hp
          refine wk_ishl C dX3_fillNear_58 rfl ?_
          refine wk_ior C dX3_fillNear_59 rfl ?_
          obtain ⟨i33, h⟩ := h
          obtain ⟨S34, eS34, h⟩ := wkLt_some h
          refine wk_iast C (hXS29 _ _ (hXS23 _ _ (hXS21 _ _ (hXS16 _ _ (hXS10 _ _ (hXS3 _ _ hl1A)))))).1 (hXS29 _ _ (hXS23 _ _ (hXS21 _ _ (hXS16 _ _ (hXS10 _ _ (hXS3 _ _ hl1A)))))).2 i33 eS34.symm dX3_fillNear_60 ?_
          have hWS34 : wkWF S34 := by rw [eS34]; exact hWS29
          have hXS34 : wkExt S29 S34 := by rw [eS34]; exact wkExt.rf
          obtain ⟨x35, ex35, h⟩ := wkLt_some h
          refine wk_iinc C (lv' := [some (.ref l0A), some (.ref l1A), some (.int l2I), some (.int x35)]) dX3_fillNear_61 rfl (by rw [ex35]; rfl) (by decide) rfl ?_
          refine wk_goto C (tgt := 7) dX3_fillNear_64 (by decide) ?_
          exact wk_forget (lv' := [some (.ref l0A), some (.ref l1A), some (.int l2I), some (.int x35)]) (wkLs.le ⟨rfl, rfl, rfl, rfl, trivial⟩) (ih _ _ _ _ _ hWS34 (wkExt.tr (wkExt.tr (wkExt.tr (wkExt.tr (wkExt.tr (wkExt.tr (wkExt.tr hE hXS3) hXS10) hXS16) hXS21) hXS23) hXS29) hXS34) (hXS34 _ _ (hXS29 _ _ (hXS23 _ _ (hXS21 _ _ (hXS16 _ _ (hXS10 _ _ (hXS3 _ _ hl0A))))))) (hXS34 _ _ (hXS29 _ _ (hXS23 _ _ (hXS21 _ _ (hXS16 _ _ (hXS10 _ _ (hXS3 _ _ hl1A))))))) h)
set_option maxHeartbeats 4000000 in
set_option maxRecDepth 100000 in
theorem tX3_fillNear {l : Launch} {g : wkG} {F : Nat}  {S : wPS} {l0A : Nat} {l1A : Nat} {l2I : Int32} {Φ : (Unit → wPS → Prop)} (hW : wkWF S) (hl0A : wkIs S l0A 3) (hl1A : wkIs S l1A 13) (h : rX3_fillNear F l0A l1A l2I S Φ) : wkMet l g yX3_fillNear wvX3_fillNear 1 0 0 [.ref l0A, .ref l1A, .int l2I] S (fun v' S'' => ∃ v : Unit, v' = none ∧ Φ v S'' ∧ wkWF S'' ∧ wkExt S S'') := by
  refine wkMet_of (ret := none) (by decide) rfl (Nat.le_of_ble_eq_true rfl) (fun X hg C hR E => ?_)
  subst hg
  have hE : wkExt S S := wkExt.rf
  have hd : 1 ≤ 1 := Nat.le_refl _
  show wkGo l X 4 0 0 0 S [some (.ref l0A), some (.ref l1A), some (.int l2I), none] []
  have ih := tX3_fillNear_go (F := F) C hR hd E F
  have h : rX3_fillNear_s F (rX3_fillNear_go F F) l0A l1A l2I S Φ := h
  unfold rX3_fillNear_s at h
  refine wk_aload_n C dX3_fillNear_0 rfl rfl ?_
  refine wk_iconst C (v := 0) dX3_fillNear_1 (by decide) ?_
  refine wk_callW C hR (As := [.ref l1A, .int (0 : Int32)]) (cnt := 2) (tJ7_fill_53178 (l := l) hW hl1A h) rfl (wkGoodW (List.mem_of_getElem? (i := 8) rfl) (List.mem_of_getElem? (i := 9) rfl) (List.mem_of_getElem? (i := 10) rfl) hbX3_fillNear_J7_fill_53178 gdJ7_fill_53178) (Nat.le_trans (by decide : 0 + 1 ≤ 1) hd) (by decide) ⟨by decide, by decide, by decide +kernel⟩ rfl rfl (Nat.le_of_ble_eq_true rfl) (Nat.le_refl 0) (Nat.le_refl 0) dX3_fillNear_2 (fun v' S37 hp => ?_)
  obtain ⟨v36, rfl, h, hWS37, hXS37⟩ := hp
  refine wk_iconst C (v := 0) dX3_fillNear_5 (by decide) ?_
  refine wk_istore_n C (lv' := [some (.ref l0A), some (.ref l1A), some (.int l2I), some (.int (0 : Int32))]) dX3_fillNear_6 rfl (by decide) rfl ?_
  exact wk_forget (lv' := [some (.ref l0A), some (.ref l1A), some (.int l2I), some (.int (0 : Int32))]) (wkLs.le ⟨rfl, rfl, rfl, rfl, trivial⟩) (ih _ _ _ _ _ hWS37 (wkExt.tr hE hXS37) (hXS37 _ _ hl0A) (hXS37 _ _ hl1A) h)
