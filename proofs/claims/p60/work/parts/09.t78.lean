def wvX10_stepFrom : List Cond := .code yX10_stepFrom cX10_stepFrom 6 (some .int) :: (([.fieldLink RX10 26 "Witnessworks$Words" "queue" "[I", .methodLink RX10 184 yX10_findNext, .instanceMethod yX10_findNext, .selects RX10 yX10_findNext yX10_findNext, .initialized RX10, .fieldLink RX10 187 "Witnessworks$Words" "nextCount" "I", .fieldLink RX10 35 "Witnessworks$Words" "steps" "[I", .fieldLink RX10 38 "Witnessworks$Words" "next" "[I", .methodLink RX10 98 yJ7_fill_53178, .static yJ7_fill_53178, .initialized RJ7] : List Cond) ++ ((wsX100) ++ (wvX10_findNext ++ (wvJ7_fill_53178))))
theorem huX10_stepFrom_10 : ∀ w ∈ u_ws RX10 TX10 12, w ∈ wvX10_stepFrom := fun w h => List.mem_cons_of_mem _ (List.mem_append_right _ (List.mem_append_left _ h))
theorem hbX10_stepFrom_X10_findNext : ∀ w ∈ wvX10_findNext, w ∈ wvX10_stepFrom := fun w h => List.mem_cons_of_mem _ (List.mem_append_right _ (List.mem_append_right _ (List.mem_append_left _ h)))
theorem hbX10_stepFrom_J7_fill_53178 : ∀ w ∈ wvJ7_fill_53178, w ∈ wvX10_stepFrom := fun w h => List.mem_cons_of_mem _ (List.mem_append_right _ (List.mem_append_right _ (List.mem_append_right _ h)))
theorem gdX10_stepFrom : ∀ w ∈ wvX10_stepFrom, wkGd w := wkGdC rfl (wkGdA (wkGdL (by decide +kernel)) (wkGdA gdX10 (wkGdA gdX10_findNext gdJ7_fill_53178)))
def rX10_stepFrom_b0 (F : Nat) (rec : Nat → Nat → Nat → Int32 → Int32 → Int32 → wPS → (Int32 → wPS → Prop) → Prop) (l0A : Nat) (l1A : Nat) (l3I : Int32) (l4I : Int32) (S : wPS) (Φ : (Int32 → wPS → Prop)) : Prop :=
  if l3I ≤ l4I then (Φ l3I S) else (¬ (l4I < 0 ∨ S.len (wkAd (gWords_queue S l0A)) ≤ (l4I).toNatClampNeg) ∧ rX10_findNext F l0A l1A (S.rI (wkAd (gWords_queue S l0A)) (l4I).toNatClampNeg) S fun v3 S4 => rec 1 l0A l1A l3I l4I (0 : Int32) S4 Φ)
def rX10_stepFrom_b1 (F : Nat) (rec : Nat → Nat → Nat → Int32 → Int32 → Int32 → wPS → (Int32 → wPS → Prop) → Prop) (l0A : Nat) (l1A : Nat) (l3I : Int32) (l4I : Int32) (l5I : Int32) (S : wPS) (Φ : (Int32 → wPS → Prop)) : Prop :=
  if (gWords_nextCount S l0A) ≤ l5I then (wkLt (l4I + (1 : Int32)) fun x9 => rec 0 l0A l1A l3I x9 0 S Φ) else (¬ (l5I < 0 ∨ S.len (wkAd (gWords_next S l0A)) ≤ (l5I).toNatClampNeg) ∧ ¬ ((S.rI (wkAd (gWords_next S l0A)) (l5I).toNatClampNeg) < 0 ∨ S.len (wkAd (gWords_steps S l0A)) ≤ ((S.rI (wkAd (gWords_next S l0A)) (l5I).toNatClampNeg)).toNatClampNeg) ∧ if 0 ≤ (S.rI (wkAd (gWords_steps S l0A)) ((S.rI (wkAd (gWords_next S l0A)) (l5I).toNatClampNeg)).toNatClampNeg) then (wkLt (l5I + (1 : Int32)) fun x13 => rec 1 l0A l1A l3I l4I x13 S Φ) else (if (256 : Int32) ≤ l3I then (wkLt (l5I + (1 : Int32)) fun x15 => rec 1 l0A l1A l3I l4I x15 S Φ) else (¬ (l5I < 0 ∨ S.len (wkAd (gWords_next S l0A)) ≤ (l5I).toNatClampNeg) ∧ ¬ (l4I < 0 ∨ S.len (wkAd (gWords_queue S l0A)) ≤ (l4I).toNatClampNeg) ∧ ¬ ((S.rI (wkAd (gWords_queue S l0A)) (l4I).toNatClampNeg) < 0 ∨ S.len (wkAd (gWords_steps S l0A)) ≤ ((S.rI (wkAd (gWords_queue S l0A)) (l4I).toNatClampNeg)).toNatClampNeg) ∧ ¬ ((S.rI (wkAd (gWords_next S l0A)) (l5I).toNatClampNeg) < 0 ∨ S.len (wkAd (gWords_steps S l0A)) ≤ ((S.rI (wkAd (gWords_next S l0A)) (l5I).toNatClampNeg)).toNatClampNeg) ∧ wkLt (wuI S (wkAd (gWords_steps S l0A)) (S.rI (wkAd (gWords_next S l0A)) (l5I).toNatClampNeg) ((S.rI (wkAd (gWords_steps S l0A)) ((S.rI (wkAd (gWords_queue S l0A)) (l4I).toNatClampNeg)).toNatClampNeg) + (1 : Int32))) fun S20 => ¬ (l5I < 0 ∨ S20.len (wkAd (gWords_next S20 l0A)) ≤ (l5I).toNatClampNeg) ∧ ¬ (l3I < 0 ∨ S20.len (wkAd (gWords_queue S20 l0A)) ≤ (l3I).toNatClampNeg) ∧ wkLt (wuI S20 (wkAd (gWords_queue S20 l0A)) l3I (S20.rI (wkAd (gWords_next S20 l0A)) (l5I).toNatClampNeg)) fun S23 => wkLt (l3I + (1 : Int32)) fun x24 => wkLt (l5I + (1 : Int32)) fun x25 => rec 1 l0A l1A x24 l4I x25 S23 Φ)))
def rX10_stepFrom_go (F : Nat) : Nat → Nat → Nat → Nat → Int32 → Int32 → Int32 → wPS → (Int32 → wPS → Prop) → Prop
  | 0, _, _, _, _, _, _, _, _ => False
  | k' + 1, lab, l0A, l1A, l3I, l4I, l5I, S, Φ => if lab = 0 then rX10_stepFrom_b0 F (rX10_stepFrom_go F k') l0A l1A l3I l4I S Φ else if lab = 1 then rX10_stepFrom_b1 F (rX10_stepFrom_go F k') l0A l1A l3I l4I l5I S Φ else False
def rX10_stepFrom_s (F : Nat) (rec : Nat → Nat → Nat → Int32 → Int32 → Int32 → wPS → (Int32 → wPS → Prop) → Prop) (l0A : Nat) (l1A : Nat) (l2I : Int32) (S : wPS) (Φ : (Int32 → wPS → Prop)) : Prop :=
  rJ7_fill_53178 F (wkAd (gWords_steps S l0A)) (-1 : Int32) S fun v26 S27 => ¬ (l2I < 0 ∨ S27.len (wkAd (gWords_steps S27 l0A)) ≤ (l2I).toNatClampNeg) ∧ wkLt (wuI S27 (wkAd (gWords_steps S27 l0A)) l2I (0 : Int32)) fun S32 => ¬ ((0 : Int32) < 0 ∨ S32.len (wkAd (gWords_queue S32 l0A)) ≤ ((0 : Int32)).toNatClampNeg) ∧ wkLt (wuI S32 (wkAd (gWords_queue S32 l0A)) (0 : Int32) l2I) fun S34 => rec 0 l0A l1A (1 : Int32) (0 : Int32) 0 S34 Φ
def rX10_stepFrom (F : Nat) (l0A : Nat) (l1A : Nat) (l2I : Int32) (S : wPS) (Φ : (Int32 → wPS → Prop)) : Prop := rX10_stepFrom_s F (rX10_stepFrom_go F F) l0A l1A l2I S Φ
set_option maxHeartbeats 4000000 in
set_option maxRecDepth 100000 in
theorem tX10_stepFrom_go {l : Launch} {X : wkX} {d F : Nat} {S0 : wPS} {Φ : (Int32 → wPS → Prop)} (C : wkC X cX10_stepFrom RX10 6 wvX10_stepFrom) (hR : wkRm X d 0 0) (hd : 3 ≤ d) (E : wkEnd l X cX10_stepFrom 6 (some .int) 0 0 (fun v' S'' => ∃ v : Int32, v' = some (.int v) ∧ Φ v S'' ∧ wkWF S'' ∧ wkExt S0 S'')) : ∀ k' : Nat, (∀ (l0A : Nat) (l1A : Nat) (l3I : Int32) (l4I : Int32) (S : wPS), wkWF S → wkExt S0 S → wkIs S l0A 10 → wkIs S l1A 3 → rX10_stepFrom_go F k' 0 l0A l1A l3I l4I 0 S Φ → wkGo l X 6 0 0 27 S [some (.ref l0A), some (.ref l1A), none, some (.int l3I), some (.int l4I), none] []) ∧ (∀ (l0A : Nat) (l1A : Nat) (l3I : Int32) (l4I : Int32) (l5I : Int32) (S : wPS), wkWF S → wkExt S0 S → wkIs S l0A 10 → wkIs S l1A 3 → rX10_stepFrom_go F k' 1 l0A l1A l3I l4I l5I S Φ → wkGo l X 6 0 0 48 S [some (.ref l0A), some (.ref l1A), none, some (.int l3I), some (.int l4I), some (.int l5I)] []) := by
  intro k'
  induction k' with
  | zero => exact ⟨fun l0A l1A l3I l4I S hW hE hl0A hl1A h => h.elim, fun l0A l1A l3I l4I l5I S hW hE hl0A hl1A h => h.elim⟩
  | succ k' ih =>
    refine ⟨?_, ?_⟩
    · intro l0A l1A l3I l4I S hW hE hl0A hl1A h
      have h : rX10_stepFrom_b0 F (rX10_stepFrom_go F k') l0A l1A l3I l4I S Φ := by
        rw [rX10_stepFrom_go, if_pos (rfl : (0 : Nat) = 0)] at h
        exact h
      unfold rX10_stepFrom_b0 at h
      refine wk_iload C dX10_stepFrom_27 rfl ?_
      refine wk_iload_n C dX10_stepFrom_29 rfl rfl ?_
      refine wk_icmp_ge C (tgt := 133) dX10_stepFrom_30 (by decide) (fun c1 => ?_) (fun c1 => ?_)
      · rw [if_pos c1] at h
        refine wk_iload_n C dX10_stepFrom_133 rfl rfl ?_
        exact E _ _ _ _ _ _ (Nat.le_refl 0) (Nat.le_refl 0) dX10_stepFrom_134 ⟨l3I, rfl, h, hW, hE⟩
      · rw [if_neg c1] at h
        refine wk_aload_n C dX10_stepFrom_33 rfl rfl ?_
        refine wk_aload_n C dX10_stepFrom_34 rfl rfl ?_
        refine wk_aload_n C dX10_stepFrom_35 rfl rfl ?_
        refine wk_get C huX10_stepFrom_10 hl0A.1 (fun cy => wAt_10 cy _ hl0A.2) rfl 4 (by decide) (List.mem_of_getElem? (i := 1) rfl) rfl (congrArg some (congrArg va_rf (wf_Words_queue hW hl0A).1)) dX10_stepFrom_36 ?_
        refine wk_iload C dX10_stepFrom_39 rfl ?_
        obtain ⟨i2, h⟩ := h
        refine wk_iald C (wf_Words_queue hW hl0A).2.1 (wf_Words_queue hW hl0A).2.2 i2 rfl dX10_stepFrom_41 ?_
        refine wk_callV C hR (As := [.ref l1A, .int (S.rI (wkAd (gWords_queue S l0A)) (l4I).toNatClampNeg)]) (cnt := 2) (tX10_findNext (l := l) hW hl0A hl1A h) rfl (wkGoodV (List.mem_of_getElem? (i := 2) rfl) (List.mem_of_getElem? (i := 3) rfl) (List.mem_of_getElem? (i := 4) rfl) (List.mem_of_getElem? (i := 5) rfl) hbX10_stepFrom_X10_findNext gdX10_findNext) (Nat.le_trans (by decide : 2 + 1 ≤ 3) hd) (by decide) hl0A.1 (fun cy => wAt_10 cy _ hl0A.2) rfl ⟨by decide, by decide, by decide +kernel⟩ rfl rfl (Nat.le_of_ble_eq_true rfl) (Nat.le_refl 0) (Nat.le_refl 0) dX10_stepFrom_42 (fun v' S4 hp => ?_)
        obtain ⟨v3, rfl, h, hWS4, hXS4⟩ := hp
        refine wk_iconst C (v := 0) dX10_stepFrom_45 (by decide) ?_
        refine wk_istore C (lv' := [some (.ref l0A), some (.ref l1A), none, some (.int l3I), some (.int l4I), some (.int (0 : Int32))]) dX10_stepFrom_46 (by decide) rfl ?_
        exact wk_forget (lv' := [some (.ref l0A), some (.ref l1A), none, some (.int l3I), some (.int l4I), some (.int (0 : Int32))]) (wkLs.le ⟨rfl, rfl, rfl, rfl, rfl, trivial⟩) (ih.2 _ _ _ _ _ _ hWS4 (wkExt.tr hE hXS4) (hXS4 _ _ hl0A) (hXS4 _ _ hl1A) h)
    · intro l0A l1A l3I l4I l5I S hW hE hl0A hl1A h
      have h : rX10_stepFrom_b1 F (rX10_stepFrom_go F k') l0A l1A l3I l4I l5I S Φ := by
        rw [rX10_stepFrom_go, if_neg (show ¬ (1 : Nat) = 0 by decide), if_pos (rfl : (1 : Nat) = 1)] at h
        exact h
      unfold rX10_stepFrom_b1 at h
      refine wk_iload C dX10_stepFrom_48 rfl ?_
      refine wk_aload_n C dX10_stepFrom_50 rfl rfl ?_
      refine wk_get C (v := .int (gWords_nextCount S l0A)) huX10_stepFrom_10 hl0A.1 (fun cy => wAt_10 cy _ hl0A.2) rfl 9 (by decide) (List.mem_of_getElem? (i := 6) rfl) rfl rfl dX10_stepFrom_51 ?_
      refine wk_icmp_ge C (tgt := 127) dX10_stepFrom_54 (by decide) (fun c8 => ?_) (fun c8 => ?_)
      · rw [if_pos c8] at h
        obtain ⟨x9, ex9, h⟩ := wkLt_some h
        refine wk_iinc C (lv' := [some (.ref l0A), some (.ref l1A), none, some (.int l3I), some (.int x9), some (.int l5I)]) dX10_stepFrom_127 rfl (by rw [ex9]; rfl) (by decide) rfl ?_
        refine wk_goto C (tgt := 27) dX10_stepFrom_130 (by decide) ?_
        exact wk_forget (lv' := [some (.ref l0A), some (.ref l1A), none, some (.int l3I), some (.int x9), none]) (wkLs.le ⟨rfl, rfl, rfl, rfl, trivial⟩) (ih.1 _ _ _ _ _ hW hE hl0A hl1A h)
      · rw [if_neg c8] at h
        refine wk_aload_n C dX10_stepFrom_57 rfl rfl ?_
        refine wk_get C huX10_stepFrom_10 hl0A.1 (fun cy => wAt_10 cy _ hl0A.2) rfl 7 (by decide) (List.mem_of_getElem? (i := 7) rfl) rfl (congrArg some (congrArg va_rf (wf_Words_steps hW hl0A).1)) dX10_stepFrom_58 ?_
        refine wk_aload_n C dX10_stepFrom_61 rfl rfl ?_
        refine wk_get C huX10_stepFrom_10 hl0A.1 (fun cy => wAt_10 cy _ hl0A.2) rfl 8 (by decide) (List.mem_of_getElem? (i := 8) rfl) rfl (congrArg some (congrArg va_rf (wf_Words_next hW hl0A).1)) dX10_stepFrom_62 ?_
        refine wk_iload C dX10_stepFrom_65 rfl ?_
        obtain ⟨i10, h⟩ := h
        refine wk_iald C (wf_Words_next hW hl0A).2.1 (wf_Words_next hW hl0A).2.2 i10 rfl dX10_stepFrom_67 ?_
        obtain ⟨i11, h⟩ := h
        refine wk_iald C (wf_Words_steps hW hl0A).2.1 (wf_Words_steps hW hl0A).2.2 i11 rfl dX10_stepFrom_68 ?_
        refine wk_if_ge C (tgt := 121) dX10_stepFrom_69 (by decide) (fun c12 => ?_) (fun c12 => ?_)
        · rw [if_pos c12] at h
          obtain ⟨x13, ex13, h⟩ := wkLt_some h
          refine wk_iinc C (lv' := [some (.ref l0A), some (.ref l1A), none, some (.int l3I), some (.int l4I), some (.int x13)]) dX10_stepFrom_121 rfl (by rw [ex13]; rfl) (by decide) rfl ?_
          refine wk_goto C (tgt := 48) dX10_stepFrom_124 (by decide) ?_
          exact wk_forget (lv' := [some (.ref l0A), some (.ref l1A), none, some (.int l3I), some (.int l4I), some (.int x13)]) (wkLs.le ⟨rfl, rfl, rfl, rfl, rfl, trivial⟩) (ih.2 _ _ _ _ _ _ hW hE hl0A hl1A h)
        · rw [if_neg c12] at h
          refine wk_iload_n C dX10_stepFrom_72 rfl rfl ?_
          refine wk_sipush C (v := 256) dX10_stepFrom_73 (by decide) ?_
          refine wk_icmp_ge C (tgt := 121) dX10_stepFrom_76 (by decide) (fun c14 => ?_) (fun c14 => ?_)
          · rw [if_pos c14] at h
            obtain ⟨x15, ex15, h⟩ := wkLt_some h
            refine wk_iinc C (lv' := [some (.ref l0A), some (.ref l1A), none, some (.int l3I), some (.int l4I), some (.int x15)]) dX10_stepFrom_121 rfl (by rw [ex15]; rfl) (by decide) rfl ?_
            refine wk_goto C (tgt := 48) dX10_stepFrom_124 (by decide) ?_
            exact wk_forget (lv' := [some (.ref l0A), some (.ref l1A), none, some (.int l3I), some (.int l4I), some (.int x15)]) (wkLs.le ⟨rfl, rfl, rfl, rfl, rfl, trivial⟩) (ih.2 _ _ _ _ _ _ hW hE hl0A hl1A h)
          · rw [if_neg c14] at h
            refine wk_aload_n C dX10_stepFrom_79 rfl rfl ?_
            refine wk_get C huX10_stepFrom_10 hl0A.1 (fun cy => wAt_10 cy _ hl0A.2) rfl 7 (by decide) (List.mem_of_getElem? (i := 7) rfl) rfl (congrArg some (congrArg va_rf (wf_Words_steps hW hl0A).1)) dX10_stepFrom_80 ?_
            refine wk_aload_n C dX10_stepFrom_83 rfl rfl ?_
            refine wk_get C huX10_stepFrom_10 hl0A.1 (fun cy => wAt_10 cy _ hl0A.2) rfl 8 (by decide) (List.mem_of_getElem? (i := 8) rfl) rfl (congrArg some (congrArg va_rf (wf_Words_next hW hl0A).1)) dX10_stepFrom_84 ?_
            refine wk_iload C dX10_stepFrom_87 rfl ?_
            obtain ⟨i16, h⟩ := h
            refine wk_iald C (wf_Words_next hW hl0A).2.1 (wf_Words_next hW hl0A).2.2 i16 rfl dX10_stepFrom_89 ?_
            refine wk_aload_n C dX10_stepFrom_90 rfl rfl ?_
            refine wk_get C huX10_stepFrom_10 hl0A.1 (fun cy => wAt_10 cy _ hl0A.2) rfl 7 (by decide) (List.mem_of_getElem? (i := 7) rfl) rfl (congrArg some (congrArg va_rf (wf_Words_steps hW hl0A).1)) dX10_stepFrom_91 ?_
            refine wk_aload_n C dX10_stepFrom_94 rfl rfl ?_
            refine wk_get C huX10_stepFrom_10 hl0A.1 (fun cy => wAt_10 cy _ hl0A.2) rfl 4 (by decide) (List.mem_of_getElem? (i := 1) rfl) rfl (congrArg some (congrArg va_rf (wf_Words_queue hW hl0A).1)) dX10_stepFrom_95 ?_
            refine wk_iload C dX10_stepFrom_98 rfl ?_
            obtain ⟨i17, h⟩ := h
            refine wk_iald C (wf_Words_queue hW hl0A).2.1 (wf_Words_queue hW hl0A).2.2 i17 rfl dX10_stepFrom_100 ?_
            obtain ⟨i18, h⟩ := h
            refine wk_iald C (wf_Words_steps hW hl0A).2.1 (wf_Words_steps hW hl0A).2.2 i18 rfl dX10_stepFrom_101 ?_
            refine wk_iconst C (v := 1) dX10_stepFrom_102 (by decide) ?_
            refine wk_iadd C dX10_stepFrom_103 rfl ?_
            obtain ⟨i19, h⟩ := h
            obtain ⟨S20, eS20, h⟩ := wkLt_some h
            refine wk_iast C (wf_Words_steps hW hl0A).2.1 (wf_Words_steps hW hl0A).2.2 i19 eS20.symm dX10_stepFrom_104 ?_
            have hWS20 : wkWF S20 := by rw [eS20]; exact hW
            have hXS20 : wkExt S S20 := by rw [eS20]; exact wkExt.rf
            refine wk_aload_n C dX10_stepFrom_105 rfl rfl ?_
            refine wk_get C huX10_stepFrom_10 (hXS20 _ _ hl0A).1 (fun cy => wAt_10 cy _ (hXS20 _ _ hl0A).2) rfl 4 (by decide) (List.mem_of_getElem? (i := 1) rfl) rfl (congrArg some (congrArg va_rf (wf_Words_queue hWS20 (hXS20 _ _ hl0A)).1)) dX10_stepFrom_106 ?_
            refine wk_iload_n C dX10_stepFrom_109 rfl rfl ?_
            refine wk_aload_n C dX10_stepFrom_110 rfl rfl ?_
            refine wk_get C huX10_stepFrom_10 (hXS20 _ _ hl0A).1 (fun cy => wAt_10 cy _ (hXS20 _ _ hl0A).2) rfl 8 (by decide) (List.mem_of_getElem? (i := 8) rfl) rfl (congrArg some (congrArg va_rf (wf_Words_next hWS20 (hXS20 _ _ hl0A)).1)) dX10_stepFrom_111 ?_
            refine wk_iload C dX10_stepFrom_114 rfl ?_
            obtain ⟨i21, h⟩ := h
            refine wk_iald C (wf_Words_next hWS20 (hXS20 _ _ hl0A)).2.1 (wf_Words_next hWS20 (hXS20 _ _ hl0A)).2.2 i21 rfl dX10_stepFrom_116 ?_
            obtain ⟨i22, h⟩ := h
            obtain ⟨S23, eS23, h⟩ := wkLt_some h
            refine wk_iast C (wf_Words_queue hWS20 (hXS20 _ _ hl0A)).2.1 (wf_Words_queue hWS20 (hXS20 _ _ hl0A)).2.2 i22 eS23.symm dX10_stepFrom_117 ?_
            have hWS23 : wkWF S23 := by rw [eS23]; exact hWS20
            have hXS23 : wkExt S20 S23 := by rw [eS23]; exact wkExt.rf
            obtain ⟨x24, ex24, h⟩ := wkLt_some h
            refine wk_iinc C (lv' := [some (.ref l0A), some (.ref l1A), none, some (.int x24), some (.int l4I), some (.int l5I)]) dX10_stepFrom_118 rfl (by rw [ex24]; rfl) (by decide) rfl ?_
            obtain ⟨x25, ex25, h⟩ := wkLt_some h
            refine wk_iinc C (lv' := [some (.ref l0A), some (.ref l1A), none, some (.int x24), some (.int l4I), some (.int x25)]) dX10_stepFrom_121 rfl (by rw [ex25]; rfl) (by decide) rfl ?_
            refine wk_goto C (tgt := 48) dX10_stepFrom_124 (by decide) ?_
            exact wk_forget (lv' := [some (.ref l0A), some (.ref l1A), none, some (.int x24), some (.int l4I), some (.int x25)]) (wkLs.le ⟨rfl, rfl, rfl, rfl, rfl, trivial⟩) (ih.2 _ _ _ _ _ _ hWS23 (wkExt.tr (wkExt.tr hE hXS20) hXS23) (hXS23 _ _ (hXS20 _ _ hl0A)) (hXS23 _ _ (hXS20 _ _ hl1A)) h)
set_option maxHeartbeats 4000000 in
set_option maxRecDepth 100000 in
theorem tX10_stepFrom {l : Launch} {g : wkG} {F : Nat}  {S : wPS} {l0A : Nat} {l1A : Nat} {l2I : Int32} {Φ : (Int32 → wPS → Prop)} (hW : wkWF S) (hl0A : wkIs S l0A 10) (hl1A : wkIs S l1A 3) (h : rX10_stepFrom F l0A l1A l2I S Φ) : wkMet l g yX10_stepFrom wvX10_stepFrom 3 0 0 [.ref l0A, .ref l1A, .int l2I] S (fun v' S'' => ∃ v : Int32, v' = some (.int v) ∧ Φ v S'' ∧ wkWF S'' ∧ wkExt S S'') := by
  refine wkMet_of (ret := (some .int)) (by decide) rfl (Nat.le_of_ble_eq_true rfl) (fun X hg C hR E => ?_)
  subst hg
  have hE : wkExt S S := wkExt.rf
  have hd : 3 ≤ 3 := Nat.le_refl _
  show wkGo l X 6 0 0 0 S [some (.ref l0A), some (.ref l1A), some (.int l2I), none, none, none] []
  have ih := tX10_stepFrom_go (F := F) C hR hd E F
  have h : rX10_stepFrom_s F (rX10_stepFrom_go F F) l0A l1A l2I S Φ := h
  unfold rX10_stepFrom_s at h
  refine wk_aload_n C dX10_stepFrom_0 rfl rfl ?_
  refine wk_get C huX10_stepFrom_10 hl0A.1 (fun cy => wAt_10 cy _ hl0A.2) rfl 7 (by decide) (List.mem_of_getElem? (i := 7) rfl) rfl (congrArg some (congrArg va_rf (wf_Words_steps hW hl0A).1)) dX10_stepFrom_1 ?_
  refine wk_iconst C (v := (-1)) dX10_stepFrom_4 (by decide) ?_
  refine wk_callW C hR (As := [.ref (wkAd (gWords_steps S l0A)), .int (-1 : Int32)]) (cnt := 2) (tJ7_fill_53178 (l := l) hW (wf_Words_steps hW hl0A).2 h) rfl (wkGoodW (List.mem_of_getElem? (i := 9) rfl) (List.mem_of_getElem? (i := 10) rfl) (List.mem_of_getElem? (i := 11) rfl) hbX10_stepFrom_J7_fill_53178 gdJ7_fill_53178) (Nat.le_trans (by decide : 0 + 1 ≤ 3) hd) (by decide) ⟨by decide, by decide, by decide +kernel⟩ rfl rfl (Nat.le_of_ble_eq_true rfl) (Nat.le_refl 0) (Nat.le_refl 0) dX10_stepFrom_5 (fun v' S27 hp => ?_)
  obtain ⟨v26, rfl, h, hWS27, hXS27⟩ := hp
  refine wk_aload_n C dX10_stepFrom_8 rfl rfl ?_
  refine wk_get C huX10_stepFrom_10 (hXS27 _ _ hl0A).1 (fun cy => wAt_10 cy _ (hXS27 _ _ hl0A).2) rfl 7 (by decide) (List.mem_of_getElem? (i := 7) rfl) rfl (congrArg some (congrArg va_rf (wf_Words_steps hWS27 (hXS27 _ _ hl0A)).1)) dX10_stepFrom_9 ?_
  refine wk_iload_n C dX10_stepFrom_12 rfl rfl ?_
  refine wk_iconst C (v := 0) dX10_stepFrom_13 (by decide) ?_
  obtain ⟨i31, h⟩ := h
  obtain ⟨S32, eS32, h⟩ := wkLt_some h
  refine wk_iast C (wf_Words_steps hWS27 (hXS27 _ _ hl0A)).2.1 (wf_Words_steps hWS27 (hXS27 _ _ hl0A)).2.2 i31 eS32.symm dX10_stepFrom_14 ?_
  have hWS32 : wkWF S32 := by rw [eS32]; exact hWS27
  have hXS32 : wkExt S27 S32 := by rw [eS32]; exact wkExt.rf
  refine wk_aload_n C dX10_stepFrom_15 rfl rfl ?_
  refine wk_get C huX10_stepFrom_10 (hXS32 _ _ (hXS27 _ _ hl0A)).1 (fun cy => wAt_10 cy _ (hXS32 _ _ (hXS27 _ _ hl0A)).2) rfl 4 (by decide) (List.mem_of_getElem? (i := 1) rfl) rfl (congrArg some (congrArg va_rf (wf_Words_queue hWS32 (hXS32 _ _ (hXS27 _ _ hl0A))).1)) dX10_stepFrom_16 ?_
  refine wk_iconst C (v := 0) dX10_stepFrom_19 (by decide) ?_
  refine wk_iload_n C dX10_stepFrom_20 rfl rfl ?_
  obtain ⟨i33, h⟩ := h
  obtain ⟨S34, eS34, h⟩ := wkLt_some h
  refine wk_iast C (wf_Words_queue hWS32 (hXS32 _ _ (hXS27 _ _ hl0A))).2.1 (wf_Words_queue hWS32 (hXS32 _ _ (hXS27 _ _ hl0A))).2.2 i33 eS34.symm dX10_stepFrom_21 ?_
  have hWS34 : wkWF S34 := by rw [eS34]; exact hWS32
  have hXS34 : wkExt S32 S34 := by rw [eS34]; exact wkExt.rf
  refine wk_iconst C (v := 1) dX10_stepFrom_22 (by decide) ?_
  refine wk_istore_n C (lv' := [some (.ref l0A), some (.ref l1A), some (.int l2I), some (.int (1 : Int32)), none, none]) dX10_stepFrom_23 rfl (by decide) rfl ?_
  refine wk_iconst C (v := 0) dX10_stepFrom_24 (by decide) ?_
  refine wk_istore C (lv' := [some (.ref l0A), some (.ref l1A), some (.int l2I), some (.int (1 : Int32)), some (.int (0 : Int32)), none]) dX10_stepFrom_25 (by decide) rfl ?_
  exact wk_forget (lv' := [some (.ref l0A), some (.ref l1A), none, some (.int (1 : Int32)), some (.int (0 : Int32)), none]) (wkLs.le ⟨rfl, rfl, rfl, rfl, trivial⟩) (ih.1 _ _ _ _ _ hWS34 (wkExt.tr (wkExt.tr (wkExt.tr hE hXS27) hXS32) hXS34) (hXS34 _ _ (hXS32 _ _ (hXS27 _ _ hl0A))) (hXS34 _ _ (hXS32 _ _ (hXS27 _ _ hl1A))) h)
def wvX10_judgeSteps : List Cond := .code yX10_judgeSteps cX10_judgeSteps 5 (some .int) :: (([.methodLink RX10 131 yX9_at, .instanceMethod yX9_at, .selects RX9 yX9_at yX9_at, .initialized RX9, .methodLink RX10 200 yX10_isNext, .instanceMethod yX10_isNext, .selects RX10 yX10_isNext yX10_isNext, .initialized RX10, .fieldLink RX10 128 "Witnessworks$Row" "count" "I", .methodLink RX10 173 yX10_beyondWords, .static yX10_beyondWords, .methodLink RX10 142 yX9_liesWithin, .instanceMethod yX9_liesWithin, .selects RX9 yX9_liesWithin yX9_liesWithin, .methodLink RX10 167 yX10_firstWord, .static yX10_firstWord, .methodLink RX10 170 yX10_secondWord, .static yX10_secondWord] : List Cond) ++ ((wsX90) ++ (wvX9_at ++ (wvX10_isNext ++ (wvX10_beyondWords ++ (wvX9_liesWithin ++ (wvX10_firstWord ++ (wvX10_secondWord))))))))
theorem huX10_judgeSteps_9 : ∀ w ∈ u_ws RX9 TX9 2, w ∈ wvX10_judgeSteps := fun w h => List.mem_cons_of_mem _ (List.mem_append_right _ (List.mem_append_left _ h))
theorem hbX10_judgeSteps_X9_at : ∀ w ∈ wvX9_at, w ∈ wvX10_judgeSteps := fun w h => List.mem_cons_of_mem _ (List.mem_append_right _ (List.mem_append_right _ (List.mem_append_left _ h)))
theorem hbX10_judgeSteps_X10_isNext : ∀ w ∈ wvX10_isNext, w ∈ wvX10_judgeSteps := fun w h => List.mem_cons_of_mem _ (List.mem_append_right _ (List.mem_append_right _ (List.mem_append_right _ (List.mem_append_left _ h))))
theorem hbX10_judgeSteps_X10_beyondWords : ∀ w ∈ wvX10_beyondWords, w ∈ wvX10_judgeSteps := fun w h => List.mem_cons_of_mem _ (List.mem_append_right _ (List.mem_append_right _ (List.mem_append_right _ (List.mem_append_right _ (List.mem_append_left _ h)))))
theorem hbX10_judgeSteps_X9_liesWithin : ∀ w ∈ wvX9_liesWithin, w ∈ wvX10_judgeSteps := fun w h => List.mem_cons_of_mem _ (List.mem_append_right _ (List.mem_append_right _ (List.mem_append_right _ (List.mem_append_right _ (List.mem_append_right _ (List.mem_append_left _ h))))))
theorem hbX10_judgeSteps_X10_firstWord : ∀ w ∈ wvX10_firstWord, w ∈ wvX10_judgeSteps := fun w h => List.mem_cons_of_mem _ (List.mem_append_right _ (List.mem_append_right _ (List.mem_append_right _ (List.mem_append_right _ (List.mem_append_right _ (List.mem_append_right _ (List.mem_append_left _ h)))))))
theorem hbX10_judgeSteps_X10_secondWord : ∀ w ∈ wvX10_secondWord, w ∈ wvX10_judgeSteps := fun w h => List.mem_cons_of_mem _ (List.mem_append_right _ (List.mem_append_right _ (List.mem_append_right _ (List.mem_append_right _ (List.mem_append_right _ (List.mem_append_right _ (List.mem_append_right _ h)))))))
theorem gdX10_judgeSteps : ∀ w ∈ wvX10_judgeSteps, wkGd w := wkGdC rfl (wkGdA (wkGdL (by decide +kernel)) (wkGdA gdX9 (wkGdA gdX9_at (wkGdA gdX10_isNext (wkGdA gdX10_beyondWords (wkGdA gdX9_liesWithin (wkGdA gdX10_firstWord gdX10_secondWord)))))))
def rX10_judgeSteps_b0 (F : Nat) (rec : Nat → Nat → Nat → Nat → Int32 → Int32 → wPS → (Int32 → wPS → Prop) → Prop) (l0A : Nat) (l1A : Nat) (l2A : Nat) (l3I : Int32) (l4I : Int32) (S : wPS) (Φ : (Int32 → wPS → Prop)) : Prop :=
  if l3I ≤ l4I then (Φ (0 : Int32) S) else (rX9_at F l2A l4I S fun v2 S3 => rX9_at F l2A (l4I + (1 : Int32)) S3 fun v7 S8 => rX10_isNext F l0A l1A v2 v7 S8 fun v12 S13 => if v12 = 0 then (Φ (2 : Int32) S13) else (wkLt (l4I + (1 : Int32)) fun x18 => rec 0 l0A l1A l2A l3I x18 S13 Φ))
def rX10_judgeSteps_go (F : Nat) : Nat → Nat → Nat → Nat → Nat → Int32 → Int32 → wPS → (Int32 → wPS → Prop) → Prop
  | 0, _, _, _, _, _, _, _, _ => False
  | k' + 1, lab, l0A, l1A, l2A, l3I, l4I, S, Φ => if lab = 0 then rX10_judgeSteps_b0 F (rX10_judgeSteps_go F k') l0A l1A l2A l3I l4I S Φ else False
def rX10_judgeSteps_s (F : Nat) (rec : Nat → Nat → Nat → Nat → Int32 → Int32 → wPS → (Int32 → wPS → Prop) → Prop) (l0A : Nat) (l1A : Nat) (l2A : Nat) (S : wPS) (Φ : (Int32 → wPS → Prop)) : Prop :=
  wkLt (((gRow_count S l2A) - (1 : Int32))) fun x19 => if x19 < 0 then (Φ (1 : Int32) S) else (rX10_beyondWords F l1A S fun v21 S22 => rX9_liesWithin F l2A (0 : Int32) (1 : Int32) (v21 - (1 : Int32)) S22 fun v26 S27 => if v26 = 0 then (Φ (1 : Int32) S27) else (rX9_at F l2A (0 : Int32) S27 fun v32 S33 => rX10_firstWord F l1A S33 fun v37 S38 => if v32 = v37 then (rX9_at F l2A x19 S38 fun v43 S44 => rX10_secondWord F l1A S44 fun v48 S49 => if v43 = v48 then (rec 0 l0A l1A l2A x19 (0 : Int32) S49 Φ) else (Φ (1 : Int32) S49)) else (Φ (1 : Int32) S38)))
def rX10_judgeSteps (F : Nat) (l0A : Nat) (l1A : Nat) (l2A : Nat) (S : wPS) (Φ : (Int32 → wPS → Prop)) : Prop := rX10_judgeSteps_s F (rX10_judgeSteps_go F F) l0A l1A l2A S Φ
set_option maxHeartbeats 4000000 in
set_option maxRecDepth 100000 in
theorem tX10_judgeSteps_go {l : Launch} {X : wkX} {d F : Nat} {S0 : wPS} {Φ : (Int32 → wPS → Prop)} (C : wkC X cX10_judgeSteps RX10 5 wvX10_judgeSteps) (hR : wkRm X d 0 0) (hd : 4 ≤ d) (E : wkEnd l X cX10_judgeSteps 5 (some .int) 0 0 (fun v' S'' => ∃ v : Int32, v' = some (.int v) ∧ Φ v S'' ∧ wkWF S'' ∧ wkExt S0 S'')) : ∀ k' : Nat, (∀ (l0A : Nat) (l1A : Nat) (l2A : Nat) (l3I : Int32) (l4I : Int32) (S : wPS), wkWF S → wkExt S0 S → wkIs S l0A 10 → wkIs S l1A 3 → wkIs S l2A 9 → rX10_judgeSteps_go F k' 0 l0A l1A l2A l3I l4I S Φ → wkGo l X 5 0 0 55 S [some (.ref l0A), some (.ref l1A), some (.ref l2A), some (.int l3I), some (.int l4I)] []) := by
  intro k'
  induction k' with
  | zero => exact fun l0A l1A l2A l3I l4I S hW hE hl0A hl1A hl2A h => h.elim
  | succ k' ih =>
    · intro l0A l1A l2A l3I l4I S hW hE hl0A hl1A hl2A h
      have h : rX10_judgeSteps_b0 F (rX10_judgeSteps_go F k') l0A l1A l2A l3I l4I S Φ := by
        rw [rX10_judgeSteps_go, if_pos (rfl : (0 : Nat) = 0)] at h
        exact h
      unfold rX10_judgeSteps_b0 at h
      refine wk_iload C dX10_judgeSteps_55 rfl ?_
      refine wk_iload_n C dX10_judgeSteps_57 rfl rfl ?_
      refine wk_icmp_ge C (tgt := 91) dX10_judgeSteps_58 (by decide) (fun c1 => ?_) (fun c1 => ?_)
      · rw [if_pos c1] at h
        refine wk_iconst C (v := 0) dX10_judgeSteps_91 (by decide) ?_
        exact E _ _ _ _ _ _ (Nat.le_refl 0) (Nat.le_refl 0) dX10_judgeSteps_92 ⟨(0 : Int32), rfl, h, hW, hE⟩
      · rw [if_neg c1] at h
        refine wk_aload_n C dX10_judgeSteps_61 rfl rfl ?_
        refine wk_aload_n C dX10_judgeSteps_62 rfl rfl ?_
        refine wk_aload_n C dX10_judgeSteps_63 rfl rfl ?_
        refine wk_iload C dX10_judgeSteps_64 rfl ?_
        refine wk_callV C hR (As := [.int l4I]) (cnt := 1) (tX9_at (l := l) hW hl2A h) rfl (wkGoodV (List.mem_of_getElem? (i := 1) rfl) (List.mem_of_getElem? (i := 2) rfl) (List.mem_of_getElem? (i := 3) rfl) (List.mem_of_getElem? (i := 4) rfl) hbX10_judgeSteps_X9_at gdX9_at) (Nat.le_trans (by decide : 0 + 1 ≤ 4) hd) (by decide) hl2A.1 (fun cy => wAt_9 cy _ hl2A.2) rfl ⟨by decide, by decide, by decide +kernel⟩ rfl rfl (Nat.le_of_ble_eq_true rfl) (Nat.le_refl 0) (Nat.le_refl 0) dX10_judgeSteps_66 (fun v' S3 hp => ?_)
        obtain ⟨v2, rfl, h, hWS3, hXS3⟩ := hp
        refine wk_aload_n C dX10_judgeSteps_69 rfl rfl ?_
        refine wk_iload C dX10_judgeSteps_70 rfl ?_
        refine wk_iconst C (v := 1) dX10_judgeSteps_72 (by decide) ?_
        refine wk_iadd C dX10_judgeSteps_73 rfl ?_
        refine wk_callV C hR (As := [.int (l4I + (1 : Int32))]) (cnt := 1) (tX9_at (l := l) hWS3 (hXS3 _ _ hl2A) h) rfl (wkGoodV (List.mem_of_getElem? (i := 1) rfl) (List.mem_of_getElem? (i := 2) rfl) (List.mem_of_getElem? (i := 3) rfl) (List.mem_of_getElem? (i := 4) rfl) hbX10_judgeSteps_X9_at gdX9_at) (Nat.le_trans (by decide : 0 + 1 ≤ 4) hd) (by decide) (hXS3 _ _ hl2A).1 (fun cy => wAt_9 cy _ (hXS3 _ _ hl2A).2) rfl ⟨by decide, by decide, by decide +kernel⟩ rfl rfl (Nat.le_of_ble_eq_true rfl) (Nat.le_refl 0) (Nat.le_refl 0) dX10_judgeSteps_74 (fun v' S8 hp => ?_)
        obtain ⟨v7, rfl, h, hWS8, hXS8⟩ := hp
        refine wk_callV C hR (As := [.ref l1A, .int v2, .int v7]) (cnt := 3) (tX10_isNext (l := l) hWS8 (hXS8 _ _ (hXS3 _ _ hl0A)) (hXS8 _ _ (hXS3 _ _ hl1A)) h) rfl (wkGoodV (List.mem_of_getElem? (i := 5) rfl) (List.mem_of_getElem? (i := 6) rfl) (List.mem_of_getElem? (i := 7) rfl) (List.mem_of_getElem? (i := 8) rfl) hbX10_judgeSteps_X10_isNext gdX10_isNext) (Nat.le_trans (by decide : 3 + 1 ≤ 4) hd) (by decide) (hXS8 _ _ (hXS3 _ _ hl0A)).1 (fun cy => wAt_10 cy _ (hXS8 _ _ (hXS3 _ _ hl0A)).2) rfl ⟨by decide, by decide, by decide +kernel⟩ rfl rfl (Nat.le_of_ble_eq_true rfl) (Nat.le_refl 0) (Nat.le_refl 0) dX10_judgeSteps_77 (fun v' S13 hp => ?_)
        obtain ⟨v12, rfl, h, hWS13, hXS13⟩ := hp
        refine wk_if_ne C (tgt := 85) dX10_judgeSteps_80 (by decide) (fun c17 => ?_) (fun c17 => ?_)
        · rw [if_neg c17] at h
          obtain ⟨x18, ex18, h⟩ := wkLt_some h
          refine wk_iinc C (lv' := [some (.ref l0A), some (.ref l1A), some (.ref l2A), some (.int l3I), some (.int x18)]) dX10_judgeSteps_85 rfl (by rw [ex18]; rfl) (by decide) rfl ?_
          refine wk_goto C (tgt := 55) dX10_judgeSteps_88 (by decide) ?_
          exact wk_forget (lv' := [some (.ref l0A), some (.ref l1A), some (.ref l2A), some (.int l3I), some (.int x18)]) (wkLs.le ⟨rfl, rfl, rfl, rfl, rfl, trivial⟩) (ih _ _ _ _ _ _ hWS13 (wkExt.tr (wkExt.tr (wkExt.tr hE hXS3) hXS8) hXS13) (hXS13 _ _ (hXS8 _ _ (hXS3 _ _ hl0A))) (hXS13 _ _ (hXS8 _ _ (hXS3 _ _ hl1A))) (hXS13 _ _ (hXS8 _ _ (hXS3 _ _ hl2A))) h)
        · rw [if_pos c17] at h
          refine wk_iconst C (v := 2) dX10_judgeSteps_83 (by decide) ?_
          exact E _ _ _ _ _ _ (Nat.le_refl 0) (Nat.le_refl 0) dX10_judgeSteps_84 ⟨(2 : Int32), rfl, h, hWS13, (wkExt.tr (wkExt.tr (wkExt.tr hE hXS3) hXS8) hXS13)⟩
set_option maxHeartbeats 4000000 in
set_option maxRecDepth 100000 in
theorem tX10_judgeSteps {l : Launch} {g : wkG} {F : Nat}  {S : wPS} {l0A : Nat} {l1A : Nat} {l2A : Nat} {Φ : (Int32 → wPS → Prop)} (hW : wkWF S) (hl0A : wkIs S l0A 10) (hl1A : wkIs S l1A 3) (hl2A : wkIs S l2A 9) (h : rX10_judgeSteps F l0A l1A l2A S Φ) : wkMet l g yX10_judgeSteps wvX10_judgeSteps 4 0 0 [.ref l0A, .ref l1A, .ref l2A] S (fun v' S'' => ∃ v : Int32, v' = some (.int v) ∧ Φ v S'' ∧ wkWF S'' ∧ wkExt S S'') := by
  refine wkMet_of (ret := (some .int)) (by decide) rfl (Nat.le_of_ble_eq_true rfl) (fun X hg C hR E => ?_)
  subst hg
  have hE : wkExt S S := wkExt.rf
  have hd : 4 ≤ 4 := Nat.le_refl _
  show wkGo l X 5 0 0 0 S [some (.ref l0A), some (.ref l1A), some (.ref l2A), none, none] []
  have ih := tX10_judgeSteps_go (F := F) C hR hd E F
  have h : rX10_judgeSteps_s F (rX10_judgeSteps_go F F) l0A l1A l2A S Φ := h
  unfold rX10_judgeSteps_s at h
  refine wk_aload_n C dX10_judgeSteps_0 rfl rfl ?_
  refine wk_get C (v := .int (gRow_count S l2A)) huX10_judgeSteps_9 hl2A.1 (fun cy => wAt_9 cy _ hl2A.2) rfl 1 (by decide) (List.mem_of_getElem? (i := 9) rfl) rfl rfl dX10_judgeSteps_1 ?_
  refine wk_iconst C (v := 1) dX10_judgeSteps_4 (by decide) ?_
  refine wk_isub C dX10_judgeSteps_5 rfl ?_
  obtain ⟨x19, ex19, h⟩ := wkLt_some h
  refine wk_topi ex19 ?_
  refine wk_istore_n C (lv' := [some (.ref l0A), some (.ref l1A), some (.ref l2A), some (.int x19), none]) dX10_judgeSteps_6 rfl (by decide) rfl ?_
  refine wk_iload_n C dX10_judgeSteps_7 rfl rfl ?_
  refine wk_if_lt C (tgt := 50) dX10_judgeSteps_8 (by decide) (fun c20 => ?_) (fun c20 => ?_)
  · rw [if_pos c20] at h
    refine wk_iconst C (v := 1) dX10_judgeSteps_50 (by decide) ?_
    exact E _ _ _ _ _ _ (Nat.le_refl 0) (Nat.le_refl 0) dX10_judgeSteps_51 ⟨(1 : Int32), rfl, h, hW, hE⟩
  · rw [if_neg c20] at h
    refine wk_aload_n C dX10_judgeSteps_11 rfl rfl ?_
    refine wk_iconst C (v := 0) dX10_judgeSteps_12 (by decide) ?_
    refine wk_iconst C (v := 1) dX10_judgeSteps_13 (by decide) ?_
    refine wk_aload_n C dX10_judgeSteps_14 rfl rfl ?_
    refine wk_callW C hR (As := [.ref l1A]) (cnt := 1) (tX10_beyondWords (l := l) hW hl1A h) rfl (wkGoodW (List.mem_of_getElem? (i := 10) rfl) (List.mem_of_getElem? (i := 11) rfl) (List.mem_of_getElem? (i := 8) rfl) hbX10_judgeSteps_X10_beyondWords gdX10_beyondWords) (Nat.le_trans (by decide : 0 + 1 ≤ 4) hd) (by decide) ⟨by decide, by decide, by decide +kernel⟩ rfl rfl (Nat.le_of_ble_eq_true rfl) (Nat.le_refl 0) (Nat.le_refl 0) dX10_judgeSteps_15 (fun v' S22 hp => ?_)
    obtain ⟨v21, rfl, h, hWS22, hXS22⟩ := hp
    refine wk_iconst C (v := 1) dX10_judgeSteps_18 (by decide) ?_
    refine wk_isub C dX10_judgeSteps_19 rfl ?_
    refine wk_callV C hR (As := [.int (0 : Int32), .int (1 : Int32), .int (v21 - (1 : Int32))]) (cnt := 3) (tX9_liesWithin (l := l) hWS22 (hXS22 _ _ hl2A) h) rfl (wkGoodV (List.mem_of_getElem? (i := 12) rfl) (List.mem_of_getElem? (i := 13) rfl) (List.mem_of_getElem? (i := 14) rfl) (List.mem_of_getElem? (i := 4) rfl) hbX10_judgeSteps_X9_liesWithin gdX9_liesWithin) (Nat.le_trans (by decide : 0 + 1 ≤ 4) hd) (by decide) (hXS22 _ _ hl2A).1 (fun cy => wAt_9 cy _ (hXS22 _ _ hl2A).2) rfl ⟨by decide, by decide, by decide +kernel⟩ rfl rfl (Nat.le_of_ble_eq_true rfl) (Nat.le_refl 0) (Nat.le_refl 0) dX10_judgeSteps_20 (fun v' S27 hp => ?_)
    obtain ⟨v26, rfl, h, hWS27, hXS27⟩ := hp
    refine wk_if_eq C (tgt := 50) dX10_judgeSteps_23 (by decide) (fun c31 => ?_) (fun c31 => ?_)
    · rw [if_pos c31] at h
      refine wk_iconst C (v := 1) dX10_judgeSteps_50 (by decide) ?_
      exact E _ _ _ _ _ _ (Nat.le_refl 0) (Nat.le_refl 0) dX10_judgeSteps_51 ⟨(1 : Int32), rfl, h, hWS27, (wkExt.tr (wkExt.tr hE hXS22) hXS27)⟩
    · rw [if_neg c31] at h
      refine wk_aload_n C dX10_judgeSteps_26 rfl rfl ?_
      refine wk_iconst C (v := 0) dX10_judgeSteps_27 (by decide) ?_
      refine wk_callV C hR (As := [.int (0 : Int32)]) (cnt := 1) (tX9_at (l := l) hWS27 (hXS27 _ _ (hXS22 _ _ hl2A)) h) rfl (wkGoodV (List.mem_of_getElem? (i := 1) rfl) (List.mem_of_getElem? (i := 2) rfl) (List.mem_of_getElem? (i := 3) rfl) (List.mem_of_getElem? (i := 4) rfl) hbX10_judgeSteps_X9_at gdX9_at) (Nat.le_trans (by decide : 0 + 1 ≤ 4) hd) (by decide) (hXS27 _ _ (hXS22 _ _ hl2A)).1 (fun cy => wAt_9 cy _ (hXS27 _ _ (hXS22 _ _ hl2A)).2) rfl ⟨by decide, by decide, by decide +kernel⟩ rfl rfl (Nat.le_of_ble_eq_true rfl) (Nat.le_refl 0) (Nat.le_refl 0) dX10_judgeSteps_28 (fun v' S33 hp => ?_)
      obtain ⟨v32, rfl, h, hWS33, hXS33⟩ := hp
      refine wk_aload_n C dX10_judgeSteps_31 rfl rfl ?_
      refine wk_callW C hR (As := [.ref l1A]) (cnt := 1) (tX10_firstWord (l := l) hWS33 (hXS33 _ _ (hXS27 _ _ (hXS22 _ _ hl1A))) h) rfl (wkGoodW (List.mem_of_getElem? (i := 15) rfl) (List.mem_of_getElem? (i := 16) rfl) (List.mem_of_getElem? (i := 8) rfl) hbX10_judgeSteps_X10_firstWord gdX10_firstWord) (Nat.le_trans (by decide : 1 + 1 ≤ 4) hd) (by decide) ⟨by decide, by decide, by decide +kernel⟩ rfl rfl (Nat.le_of_ble_eq_true rfl) (Nat.le_refl 0) (Nat.le_refl 0) dX10_judgeSteps_32 (fun v' S38 hp => ?_)
      obtain ⟨v37, rfl, h, hWS38, hXS38⟩ := hp
      refine wk_icmp_ne C (tgt := 50) dX10_judgeSteps_35 (by decide) (fun c42 => ?_) (fun c42 => ?_)
      · rw [if_neg c42] at h
        refine wk_iconst C (v := 1) dX10_judgeSteps_50 (by decide) ?_
        exact E _ _ _ _ _ _ (Nat.le_refl 0) (Nat.le_refl 0) dX10_judgeSteps_51 ⟨(1 : Int32), rfl, h, hWS38, (wkExt.tr (wkExt.tr (wkExt.tr (wkExt.tr hE hXS22) hXS27) hXS33) hXS38)⟩
      · rw [if_pos c42] at h
        refine wk_aload_n C dX10_judgeSteps_38 rfl rfl ?_
        refine wk_iload_n C dX10_judgeSteps_39 rfl rfl ?_
        refine wk_callV C hR (As := [.int x19]) (cnt := 1) (tX9_at (l := l) hWS38 (hXS38 _ _ (hXS33 _ _ (hXS27 _ _ (hXS22 _ _ hl2A)))) h) rfl (wkGoodV (List.mem_of_getElem? (i := 1) rfl) (List.mem_of_getElem? (i := 2) rfl) (List.mem_of_getElem? (i := 3) rfl) (List.mem_of_getElem? (i := 4) rfl) hbX10_judgeSteps_X9_at gdX9_at) (Nat.le_trans (by decide : 0 + 1 ≤ 4) hd) (by decide) (hXS38 _ _ (hXS33 _ _ (hXS27 _ _ (hXS22 _ _ hl2A)))).1 (fun cy => wAt_9 cy _ (hXS38 _ _ (hXS33 _ _ (hXS27 _ _ (hXS22 _ _ hl2A)))).2) rfl ⟨by decide, by decide, by decide +kernel⟩ rfl rfl (Nat.le_of_ble_eq_true rfl) (Nat.le_refl 0) (Nat.le_refl 0) dX10_judgeSteps_40 (fun v' S44 hp => ?_)
        obtain ⟨v43, rfl, h, hWS44, hXS44⟩ := hp
        refine wk_aload_n C dX10_judgeSteps_43 rfl rfl ?_
        refine wk_callW C hR (As := [.ref l1A]) (cnt := 1) (tX10_secondWord (l := l) hWS44 (hXS44 _ _ (hXS38 _ _ (hXS33 _ _ (hXS27 _ _ (hXS22 _ _ hl1A))))) h) rfl (wkGoodW (List.mem_of_getElem? (i := 17) rfl) (List.mem_of_getElem? (i := 18) rfl) (List.mem_of_getElem? (i := 8) rfl) hbX10_judgeSteps_X10_secondWord gdX10_secondWord) (Nat.le_trans (by decide : 1 + 1 ≤ 4) hd) (by decide) ⟨by decide, by decide, by decide +kernel⟩ rfl rfl (Nat.le_of_ble_eq_true rfl) (Nat.le_refl 0) (Nat.le_refl 0) dX10_judgeSteps_44 (fun v' S49 hp => ?_)
        obtain ⟨v48, rfl, h, hWS49, hXS49⟩ := hp
        refine wk_icmp_eq C (tgt := 52) dX10_judgeSteps_47 (by decide) (fun c53 => ?_) (fun c53 => ?_)
        · rw [if_pos c53] at h
          refine wk_iconst C (v := 0) dX10_judgeSteps_52 (by decide) ?_
          refine wk_istore C (lv' := [some (.ref l0A), some (.ref l1A), some (.ref l2A), some (.int x19), some (.int (0 : Int32))]) dX10_judgeSteps_53 (by decide) rfl ?_
          exact wk_forget (lv' := [some (.ref l0A), some (.ref l1A), some (.ref l2A), some (.int x19), some (.int (0 : Int32))]) (wkLs.le ⟨rfl, rfl, rfl, rfl, rfl, trivial⟩) (ih _ _ _ _ _ _ hWS49 (wkExt.tr (wkExt.tr (wkExt.tr (wkExt.tr (wkExt.tr (wkExt.tr hE hXS22) hXS27) hXS33) hXS38) hXS44) hXS49) (hXS49 _ _ (hXS44 _ _ (hXS38 _ _ (hXS33 _ _ (hXS27 _ _ (hXS22 _ _ hl0A)))))) (hXS49 _ _ (hXS44 _ _ (hXS38 _ _ (hXS33 _ _ (hXS27 _ _ (hXS22 _ _ hl1A)))))) (hXS49 _ _ (hXS44 _ _ (hXS38 _ _ (hXS33 _ _ (hXS27 _ _ (hXS22 _ _ hl2A)))))) h)
        · rw [if_neg c53] at h
          refine wk_iconst C (v := 1) dX10_judgeSteps_50 (by decide) ?_
          exact E _ _ _ _ _ _ (Nat.le_refl 0) (Nat.le_refl 0) dX10_judgeSteps_51 ⟨(1 : Int32), rfl, h, hWS49, (wkExt.tr (wkExt.tr (wkExt.tr (wkExt.tr (wkExt.tr (wkExt.tr hE hXS22) hXS27) hXS33) hXS38) hXS44) hXS49)⟩
