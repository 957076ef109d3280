def wvX6_findLetters : List Cond := .code yX6_findLetters cX6_findLetters 5 none :: (([.fieldLink RX6 43 "Witnessworks$Machines" "size" "I", .methodLink RX6 51 yX6_lettersAt, .instanceMethod yX6_lettersAt, .selects RX6 yX6_lettersAt yX6_lettersAt, .initialized RX6, .methodLink RX6 89 yX6_isToldBy, .instanceMethod yX6_isToldBy, .selects RX6 yX6_isToldBy yX6_isToldBy, .fieldLink RX6 21 "Witnessworks$Machines" "letters" "[I", .methodLink RX6 80 yX6_loadStates, .instanceMethod yX6_loadStates, .selects RX6 yX6_loadStates yX6_loadStates, .methodLink RX6 83 yJ7_fill_53178, .static yJ7_fill_53178, .initialized RJ7] : List Cond) ++ ((wsX60) ++ (wvX6_lettersAt ++ (wvX6_isToldBy ++ (wvX6_loadStates ++ (wvJ7_fill_53178))))))
theorem huX6_findLetters_6 : ∀ w ∈ u_ws RX6 TX6 8, w ∈ wvX6_findLetters := fun w h => List.mem_cons_of_mem _ (List.mem_append_right _ (List.mem_append_left _ h))
theorem hbX6_findLetters_X6_lettersAt : ∀ w ∈ wvX6_lettersAt, w ∈ wvX6_findLetters := fun w h => List.mem_cons_of_mem _ (List.mem_append_right _ (List.mem_append_right _ (List.mem_append_left _ h)))
theorem hbX6_findLetters_X6_isToldBy : ∀ w ∈ wvX6_isToldBy, w ∈ wvX6_findLetters := fun w h => List.mem_cons_of_mem _ (List.mem_append_right _ (List.mem_append_right _ (List.mem_append_right _ (List.mem_append_left _ h))))
theorem hbX6_findLetters_X6_loadStates : ∀ w ∈ wvX6_loadStates, w ∈ wvX6_findLetters := fun w h => List.mem_cons_of_mem _ (List.mem_append_right _ (List.mem_append_right _ (List.mem_append_right _ (List.mem_append_right _ (List.mem_append_left _ h)))))
theorem hbX6_findLetters_J7_fill_53178 : ∀ w ∈ wvJ7_fill_53178, w ∈ wvX6_findLetters := fun w h => List.mem_cons_of_mem _ (List.mem_append_right _ (List.mem_append_right _ (List.mem_append_right _ (List.mem_append_right _ (List.mem_append_right _ h)))))
theorem gdX6_findLetters : ∀ w ∈ wvX6_findLetters, wkGd w := wkGdC rfl (wkGdA (wkGdL (by decide +kernel)) (wkGdA gdX6 (wkGdA gdX6_lettersAt (wkGdA gdX6_isToldBy (wkGdA gdX6_loadStates gdJ7_fill_53178)))))
def rX6_findLetters_b0 (F : Nat) (rec : Nat → Nat → Int32 → Int32 → Int32 → wPS → (Unit → wPS → Prop) → Prop) (l0A : Nat) (l2I : Int32) (S : wPS) (Φ : (Unit → wPS → Prop)) : Prop :=
  if (8 : Int32) < l2I then (Φ () S) else (rec 1 l0A l2I (0 : Int32) 0 S Φ)
def rX6_findLetters_b1 (F : Nat) (rec : Nat → Nat → Int32 → Int32 → Int32 → wPS → (Unit → wPS → Prop) → Prop) (l0A : Nat) (l2I : Int32) (l3I : Int32) (S : wPS) (Φ : (Unit → wPS → Prop)) : Prop :=
  if (gMachines_size S l0A) ≤ l3I then (wkLt (l2I + (1 : Int32)) fun x3 => rec 0 l0A x3 0 0 S Φ) else (rec 2 l0A l2I l3I (0 : Int32) S Φ)
def rX6_findLetters_b2 (F : Nat) (rec : Nat → Nat → Int32 → Int32 → Int32 → wPS → (Unit → wPS → Prop) → Prop) (l0A : Nat) (l2I : Int32) (l3I : Int32) (l4I : Int32) (S : wPS) (Φ : (Unit → wPS → Prop)) : Prop :=
  if (gMachines_size S l0A) ≤ l4I then (wkLt (l3I + (1 : Int32)) fun x5 => rec 1 l0A l2I x5 0 S Φ) else (rX6_lettersAt F l0A l3I l4I S fun v6 S7 => if 0 ≤ v6 then (wkLt (l4I + (1 : Int32)) fun x12 => rec 2 l0A l2I l3I x12 S7 Φ) else (rX6_isToldBy F l0A l3I l4I l2I S7 fun v13 S14 => if v13 = 0 then (wkLt (l4I + (1 : Int32)) fun x19 => rec 2 l0A l2I l3I x19 S14 Φ) else (¬ (((l3I * (8 : Int32)) + l4I) < 0 ∨ S14.len (wkAd (gMachines_letters S14 l0A)) ≤ (((l3I * (8 : Int32)) + l4I)).toNatClampNeg) ∧ wkLt (wuI S14 (wkAd (gMachines_letters S14 l0A)) ((l3I * (8 : Int32)) + l4I) l2I) fun S21 => wkLt (l4I + (1 : Int32)) fun x22 => rec 2 l0A l2I l3I x22 S21 Φ)))
def rX6_findLetters_go (F : Nat) : Nat → Nat → Nat → Int32 → Int32 → Int32 → wPS → (Unit → wPS → Prop) → Prop
  | 0, _, _, _, _, _, _, _ => False
  | k' + 1, lab, l0A, l2I, l3I, l4I, S, Φ => if lab = 0 then rX6_findLetters_b0 F (rX6_findLetters_go F k') l0A l2I S Φ else if lab = 1 then rX6_findLetters_b1 F (rX6_findLetters_go F k') l0A l2I l3I S Φ else if lab = 2 then rX6_findLetters_b2 F (rX6_findLetters_go F k') l0A l2I l3I l4I S Φ else False
def rX6_findLetters_s (F : Nat) (rec : Nat → Nat → Int32 → Int32 → Int32 → wPS → (Unit → wPS → Prop) → Prop) (l0A : Nat) (l1A : Nat) (S : wPS) (Φ : (Unit → wPS → Prop)) : Prop :=
  rX6_loadStates F l0A l1A S fun v23 S24 => rJ7_fill_53178 F (wkAd (gMachines_letters S24 l0A)) (-1 : Int32) S24 fun v28 S29 => rec 0 l0A (0 : Int32) 0 0 S29 Φ
def rX6_findLetters (F : Nat) (l0A : Nat) (l1A : Nat) (S : wPS) (Φ : (Unit → wPS → Prop)) : Prop := rX6_findLetters_s F (rX6_findLetters_go F F) l0A l1A S Φ
set_option maxHeartbeats 4000000 in
set_option maxRecDepth 100000 in
theorem tX6_findLetters_go {l : Launch} {X : wkX} {d F : Nat} {S0 : wPS} {Φ : (Unit → wPS → Prop)} (C : wkC X cX6_findLetters RX6 5 wvX6_findLetters) (hR : wkRm X d 0 0) (hd : 2 ≤ d) (E : wkEnd l X cX6_findLetters 5 none 0 0 (fun v' S'' => ∃ v : Unit, v' = none ∧ Φ v S'' ∧ wkWF S'' ∧ wkExt S0 S'')) : ∀ k' : Nat, (∀ (l0A : Nat) (l2I : Int32) (S : wPS), wkWF S → wkExt S0 S → wkIs S l0A 6 → rX6_findLetters_go F k' 0 l0A l2I 0 0 S Φ → wkGo l X 5 0 0 15 S [some (.ref l0A), none, some (.int l2I), none, none] []) ∧ (∀ (l0A : Nat) (l2I : Int32) (l3I : Int32) (S : wPS), wkWF S → wkExt S0 S → wkIs S l0A 6 → rX6_findLetters_go F k' 1 l0A l2I l3I 0 S Φ → wkGo l X 5 0 0 23 S [some (.ref l0A), none, some (.int l2I), some (.int l3I), none] []) ∧ (∀ (l0A : Nat) (l2I : Int32) (l3I : Int32) (l4I : Int32) (S : wPS), wkWF S → wkExt S0 S → wkIs S l0A 6 → rX6_findLetters_go F k' 2 l0A l2I l3I l4I S Φ → wkGo l X 5 0 0 34 S [some (.ref l0A), none, some (.int l2I), some (.int l3I), some (.int l4I)] []) := by
  intro k'
  induction k' with
  | zero => exact ⟨fun l0A l2I S hW hE hl0A h => h.elim, fun l0A l2I l3I S hW hE hl0A h => h.elim, fun l0A l2I l3I l4I S hW hE hl0A h => h.elim⟩
  | succ k' ih =>
    refine ⟨?_, ?_, ?_⟩
    · intro l0A l2I S hW hE hl0A h
      have h : rX6_findLetters_b0 F (rX6_findLetters_go F k') l0A l2I S Φ := by
        rw [rX6_findLetters_go, if_pos (rfl : (0 : Nat) = 0)] at h
        exact h
      unfold rX6_findLetters_b0 at h
      refine wk_iload_n C dX6_findLetters_15 rfl rfl ?_
      refine wk_bipush C (v := 8) dX6_findLetters_16 (by decide) ?_
      refine wk_icmp_gt C (tgt := 95) dX6_findLetters_18 (by decide) (fun c1 => ?_) (fun c1 => ?_)
      · rw [if_pos c1] at h
        exact E _ _ _ _ _ (Nat.le_refl 0) (Nat.le_refl 0) dX6_findLetters_95 ⟨(), rfl, h, hW, hE⟩
      · rw [if_neg c1] at h
        refine wk_iconst C (v := 0) dX6_findLetters_21 (by decide) ?_
        refine wk_istore_n C (lv' := [some (.ref l0A), none, some (.int l2I), some (.int (0 : Int32)), none]) dX6_findLetters_22 rfl (by decide) rfl ?_
        exact wk_forget (lv' := [some (.ref l0A), none, some (.int l2I), some (.int (0 : Int32)), none]) (wkLs.le ⟨rfl, rfl, rfl, trivial⟩) (ih.2.1 _ _ _ _ hW hE hl0A h)
    · intro l0A l2I l3I S hW hE hl0A h
      have h : rX6_findLetters_b1 F (rX6_findLetters_go F k') l0A l2I l3I S Φ := by
        rw [rX6_findLetters_go, if_neg (show ¬ (1 : Nat) = 0 by decide), if_pos (rfl : (1 : Nat) = 1)] at h
        exact h
      unfold rX6_findLetters_b1 at h
      refine wk_iload_n C dX6_findLetters_23 rfl rfl ?_
      refine wk_aload_n C dX6_findLetters_24 rfl rfl ?_
      refine wk_get C (v := .int (gMachines_size S l0A)) huX6_findLetters_6 hl0A.1 (fun cy => wAt_6 cy _ hl0A.2) rfl 7 (by decide) (List.mem_of_getElem? (i := 1) rfl) rfl rfl dX6_findLetters_25 ?_
      refine wk_icmp_ge C (tgt := 89) dX6_findLetters_28 (by decide) (fun c2 => ?_) (fun c2 => ?_)
      · rw [if_pos c2] at h
        obtain ⟨x3, ex3, h⟩ := wkLt_some h
        refine wk_iinc C (lv' := [some (.ref l0A), none, some (.int x3), some (.int l3I), none]) dX6_findLetters_89 rfl (by rw [ex3]; rfl) (by decide) rfl ?_
        refine wk_goto C (tgt := 15) dX6_findLetters_92 (by decide) ?_
        exact wk_forget (lv' := [some (.ref l0A), none, some (.int x3), none, none]) (wkLs.le ⟨rfl, rfl, trivial⟩) (ih.1 _ _ _ hW hE hl0A h)
      · rw [if_neg c2] at h
        refine wk_iconst C (v := 0) dX6_findLetters_31 (by decide) ?_
        refine wk_istore C (lv' := [some (.ref l0A), none, some (.int l2I), some (.int l3I), some (.int (0 : Int32))]) dX6_findLetters_32 (by decide) rfl ?_
        exact wk_forget (lv' := [some (.ref l0A), none, some (.int l2I), some (.int l3I), some (.int (0 : Int32))]) (wkLs.le ⟨rfl, rfl, rfl, rfl, trivial⟩) (ih.2.2 _ _ _ _ _ hW hE hl0A h)
    · intro l0A l2I l3I l4I S hW hE hl0A h
      have h : rX6_findLetters_b2 F (rX6_findLetters_go F k') l0A l2I l3I l4I S Φ := by
        rw [rX6_findLetters_go, if_neg (show ¬ (2 : Nat) = 0 by decide), if_neg (show ¬ (2 : Nat) = 1 by decide), if_pos (rfl : (2 : Nat) = 2)] at h
        exact h
      unfold rX6_findLetters_b2 at h
      refine wk_iload C dX6_findLetters_34 rfl ?_
      refine wk_aload_n C dX6_findLetters_36 rfl rfl ?_
      refine wk_get C (v := .int (gMachines_size S l0A)) huX6_findLetters_6 hl0A.1 (fun cy => wAt_6 cy _ hl0A.2) rfl 7 (by decide) (List.mem_of_getElem? (i := 1) rfl) rfl rfl dX6_findLetters_37 ?_
      refine wk_icmp_ge C (tgt := 83) dX6_findLetters_40 (by decide) (fun c4 => ?_) (fun c4 => ?_)
      · rw [if_pos c4] at h
        obtain ⟨x5, ex5, h⟩ := wkLt_some h
        refine wk_iinc C (lv' := [some (.ref l0A), none, some (.int l2I), some (.int x5), some (.int l4I)]) dX6_findLetters_83 rfl (by rw [ex5]; rfl) (by decide) rfl ?_
        refine wk_goto C (tgt := 23) dX6_findLetters_86 (by decide) ?_
        exact wk_forget (lv' := [some (.ref l0A), none, some (.int l2I), some (.int x5), none]) (wkLs.le ⟨rfl, rfl, rfl, trivial⟩) (ih.2.1 _ _ _ _ hW hE hl0A h)
      · rw [if_neg c4] at h
        refine wk_aload_n C dX6_findLetters_43 rfl rfl ?_
        refine wk_iload_n C dX6_findLetters_44 rfl rfl ?_
        refine wk_iload C dX6_findLetters_45 rfl ?_
        refine wk_callV C hR (As := [.int l3I, .int l4I]) (cnt := 2) (tX6_lettersAt (l := l) hW hl0A h) rfl (wkGoodV (List.mem_of_getElem? (i := 2) rfl) (List.mem_of_getElem? (i := 3) rfl) (List.mem_of_getElem? (i := 4) rfl) (List.mem_of_getElem? (i := 5) rfl) hbX6_findLetters_X6_lettersAt gdX6_lettersAt) (Nat.le_trans (by decide : 0 + 1 ≤ 2) hd) (by decide) hl0A.1 (fun cy => wAt_6 cy _ hl0A.2) rfl ⟨by decide, by decide, by decide +kernel⟩ rfl rfl (Nat.le_of_ble_eq_true rfl) (Nat.le_refl 0) (Nat.le_refl 0) dX6_findLetters_47 (fun v' S7 hp => ?_)
        obtain ⟨v6, rfl, h, hWS7, hXS7⟩ := hp
        refine wk_if_ge C (tgt := 77) dX6_findLetters_50 (by decide) (fun c11 => ?_) (fun c11 => ?_)
        · rw [if_pos c11] at h
          obtain ⟨x12, ex12, h⟩ := wkLt_some h
          refine wk_iinc C (lv' := [some (.ref l0A), none, some (.int l2I), some (.int l3I), some (.int x12)]) dX6_findLetters_77 rfl (by rw [ex12]; rfl) (by decide) rfl ?_
          refine wk_goto C (tgt := 34) dX6_findLetters_80 (by decide) ?_
          exact wk_forget (lv' := [some (.ref l0A), none, some (.int l2I), some (.int l3I), some (.int x12)]) (wkLs.le ⟨rfl, rfl, rfl, rfl, trivial⟩) (ih.2.2 _ _ _ _ _ hWS7 (wkExt.tr hE hXS7) (hXS7 _ _ hl0A) h)
        · rw [if_neg c11] at h
          refine wk_aload_n C dX6_findLetters_53 rfl rfl ?_
          refine wk_iload_n C dX6_findLetters_54 rfl rfl ?_
          refine wk_iload C dX6_findLetters_55 rfl ?_
          refine wk_iload_n C dX6_findLetters_57 rfl rfl ?_
          refine wk_callV C hR (As := [.int l3I, .int l4I, .int l2I]) (cnt := 3) (tX6_isToldBy (l := l) hWS7 (hXS7 _ _ hl0A) h) rfl (wkGoodV (List.mem_of_getElem? (i := 6) rfl) (List.mem_of_getElem? (i := 7) rfl) (List.mem_of_getElem? (i := 8) rfl) (List.mem_of_getElem? (i := 5) rfl) hbX6_findLetters_X6_isToldBy gdX6_isToldBy) (Nat.le_trans (by decide : 1 + 1 ≤ 2) hd) (by decide) (hXS7 _ _ hl0A).1 (fun cy => wAt_6 cy _ (hXS7 _ _ hl0A).2) rfl ⟨by decide, by decide, by decide +kernel⟩ rfl rfl (Nat.le_of_ble_eq_true rfl) (Nat.le_refl 0) (Nat.le_refl 0) dX6_findLetters_58 (fun v' S14 hp => ?_)
          obtain ⟨v13, rfl, h, hWS14, hXS14⟩ := hp
          refine wk_if_eq C (tgt := 77) dX6_findLetters_61 (by decide) (fun c18 => ?_) (fun c18 => ?_)
          · rw [if_pos c18] at h
            obtain ⟨x19, ex19, h⟩ := wkLt_some h
            refine wk_iinc C (lv' := [some (.ref l0A), none, some (.int l2I), some (.int l3I), some (.int x19)]) dX6_findLetters_77 rfl (by rw [ex19]; rfl) (by decide) rfl ?_
            refine wk_goto C (tgt := 34) dX6_findLetters_80 (by decide) ?_
            exact wk_forget (lv' := [some (.ref l0A), none, some (.int l2I), some (.int l3I), some (.int x19)]) (wkLs.le ⟨rfl, rfl, rfl, rfl, trivial⟩) (ih.2.2 _ _ _ _ _ hWS14 (wkExt.tr (wkExt.tr hE hXS7) hXS14) (hXS14 _ _ (hXS7 _ _ hl0A)) h)
          · rw [if_neg c18] at h
            refine wk_aload_n C dX6_findLetters_64 rfl rfl ?_
            refine wk_get C huX6_findLetters_6 (hXS14 _ _ (hXS7 _ _ hl0A)).1 (fun cy => wAt_6 cy _ (hXS14 _ _ (hXS7 _ _ hl0A)).2) rfl 3 (by decide) (List.mem_of_getElem? (i := 9) rfl) rfl (congrArg some (congrArg va_rf (wf_Machines_letters hWS14 (hXS14 _ _ (hXS7 _ _ hl0A))).1)) dX6_findLetters_65 ?_
            refine wk_iload_n C dX6_findLetters_68 rfl rfl ?_
            refine wk_bipush C (v := 8) dX6_findLetters_69 (by decide) ?_
            refine wk_imul C dX6_findLetters_71 rfl ?_
            refine wk_iload C dX6_findLetters_72 rfl ?_
            refine wk_iadd C dX6_findLetters_74 rfl ?_
            refine wk_iload_n C dX6_findLetters_75 rfl rfl ?_
            obtain ⟨i20, h⟩ := h
            obtain ⟨S21, eS21, h⟩ := wkLt_some h
            refine wk_iast C (wf_Machines_letters hWS14 (hXS14 _ _ (hXS7 _ _ hl0A))).2.1 (wf_Machines_letters hWS14 (hXS14 _ _ (hXS7 _ _ hl0A))).2.2 i20 eS21.symm dX6_findLetters_76 ?_
            have hWS21 : wkWF S21 := by rw [eS21]; exact hWS14
            have hXS21 : wkExt S14 S21 := by rw [eS21]; exact wkExt.rf
            obtain ⟨x22, ex22, h⟩ := wkLt_some h
            refine wk_iinc C (lv' := [some (.ref l0A), none, some (.int l2I), some (.int l3I), some (.int x22)]) dX6_findLetters_77 rfl (by rw [ex22]; rfl) (by decide) rfl ?_
            refine wk_goto C (tgt := 34) dX6_findLetters_80 (by decide) ?_
            exact wk_forget (lv' := [some (.ref l0A), none, some (.int l2I), some (.int l3I), some (.int x22)]) (wkLs.le ⟨rfl, rfl, rfl, rfl, trivial⟩) (ih.2.2 _ _ _ _ _ hWS21 (wkExt.tr (wkExt.tr (wkExt.tr hE hXS7) hXS14) hXS21) (hXS21 _ _ (hXS14 _ _ (hXS7 _ _ hl0A))) h)
set_option maxHeartbeats 4000000 in
set_option maxRecDepth 100000 in
theorem tX6_findLetters {l : Launch} {g : wkG} {F : Nat}  {S : wPS} {l0A : Nat} {l1A : Nat} {Φ : (Unit → wPS → Prop)} (hW : wkWF S) (hl0A : wkIs S l0A 6) (hl1A : wkIs S l1A 3) (h : rX6_findLetters F l0A l1A S Φ) : wkMet l g yX6_findLetters wvX6_findLetters 2 0 0 [.ref l0A, .ref l1A] S (fun v' S'' => ∃ v : Unit, v' = none ∧ Φ v S'' ∧ wkWF S'' ∧ wkExt S S'') := by
  refine wkMet_of (ret := none) (by decide) rfl (Nat.le_of_ble_eq_true rfl) (fun X hg C hR E => ?_)
  subst hg
  have hE : wkExt S S := wkExt.rf
  have hd : 2 ≤ 2 := Nat.le_refl _
  show wkGo l X 5 0 0 0 S [some (.ref l0A), some (.ref l1A), none, none, none] []
  have ih := tX6_findLetters_go (F := F) C hR hd E F
  have h : rX6_findLetters_s F (rX6_findLetters_go F F) l0A l1A S Φ := h
  unfold rX6_findLetters_s at h
  refine wk_aload_n C dX6_findLetters_0 rfl rfl ?_
  refine wk_aload_n C dX6_findLetters_1 rfl rfl ?_
  refine wk_callV C hR (As := [.ref l1A]) (cnt := 1) (tX6_loadStates (l := l) hW hl0A hl1A h) rfl (wkGoodV (List.mem_of_getElem? (i := 10) rfl) (List.mem_of_getElem? (i := 11) rfl) (List.mem_of_getElem? (i := 12) rfl) (List.mem_of_getElem? (i := 5) rfl) hbX6_findLetters_X6_loadStates gdX6_loadStates) (Nat.le_trans (by decide : 1 + 1 ≤ 2) hd) (by decide) hl0A.1 (fun cy => wAt_6 cy _ hl0A.2) rfl ⟨by decide, by decide, by decide +kernel⟩ rfl rfl (Nat.le_of_ble_eq_true rfl) (Nat.le_refl 0) (Nat.le_refl 0) dX6_findLetters_2 (fun v' S24 hp => ?_)
  obtain ⟨v23, rfl, h, hWS24, hXS24⟩ := hp
  refine wk_aload_n C dX6_findLetters_5 rfl rfl ?_
  refine wk_get C huX6_findLetters_6 (hXS24 _ _ hl0A).1 (fun cy => wAt_6 cy _ (hXS24 _ _ hl0A).2) rfl 3 (by decide) (List.mem_of_getElem? (i := 9) rfl) rfl (congrArg some (congrArg va_rf (wf_Machines_letters hWS24 (hXS24 _ _ hl0A)).1)) dX6_findLetters_6 ?_
  refine wk_iconst C (v := (-1)) dX6_findLetters_9 (by decide) ?_
  refine wk_callW C hR (As := [.ref (wkAd (gMachines_letters S24 l0A)), .int (-1 : Int32)]) (cnt := 2) (tJ7_fill_53178 (l := l) hWS24 (wf_Machines_letters hWS24 (hXS24 _ _ hl0A)).2 h) rfl (wkGoodW (List.mem_of_getElem? (i := 13) rfl) (List.mem_of_getElem? (i := 14) rfl) (List.mem_of_getElem? (i := 15) rfl) hbX6_findLetters_J7_fill_53178 gdJ7_fill_53178) (Nat.le_trans (by decide : 0 + 1 ≤ 2) hd) (by decide) ⟨by decide, by decide, by decide +kernel⟩ rfl rfl (Nat.le_of_ble_eq_true rfl) (Nat.le_refl 0) (Nat.le_refl 0) dX6_findLetters_10 (fun v' S29 hp => ?_)
  obtain ⟨v28, rfl, h, hWS29, hXS29⟩ := hp
  refine wk_iconst C (v := 0) dX6_findLetters_13 (by decide) ?_
  refine wk_istore_n C (lv' := [some (.ref l0A), some (.ref l1A), some (.int (0 : Int32)), none, none]) dX6_findLetters_14 rfl (by decide) rfl ?_
  exact wk_forget (lv' := [some (.ref l0A), none, some (.int (0 : Int32)), none, none]) (wkLs.le ⟨rfl, rfl, trivial⟩) (ih.1 _ _ _ hWS29 (wkExt.tr (wkExt.tr hE hXS24) hXS29) (hXS29 _ _ (hXS24 _ _ hl0A)) h)
def wvX6_goAlike : List Cond := .code yX6_goAlike cX6_goAlike 4 (some .boolean) :: (([.fieldLink RX6 11 "Witnessworks$Machines" "byZero" "[I", .methodLink RX6 99 yX9_at, .instanceMethod yX9_at, .selects RX9 yX9_at yX9_at, .initialized RX9, .fieldLink RX6 15 "Witnessworks$Machines" "byOne" "[I"] : List Cond) ++ ((wsX60) ++ (wvX9_at)))
theorem huX6_goAlike_6 : ∀ w ∈ u_ws RX6 TX6 8, w ∈ wvX6_goAlike := fun w h => List.mem_cons_of_mem _ (List.mem_append_right _ (List.mem_append_left _ h))
theorem hbX6_goAlike_X9_at : ∀ w ∈ wvX9_at, w ∈ wvX6_goAlike := fun w h => List.mem_cons_of_mem _ (List.mem_append_right _ (List.mem_append_right _ h))
theorem gdX6_goAlike : ∀ w ∈ wvX6_goAlike, wkGd w := wkGdC rfl (wkGdA (wkGdL (by decide +kernel)) (wkGdA gdX6 gdX9_at))
def rX6_goAlike (F : Nat) (l0A : Nat) (l1A : Nat) (l2I : Int32) (l3I : Int32) (S : wPS) (Φ : (Int32 → wPS → Prop)) : Prop :=
  ¬ (l2I < 0 ∨ S.len (wkAd (gMachines_byZero S l0A)) ≤ (l2I).toNatClampNeg) ∧ rX9_at F l1A (S.rI (wkAd (gMachines_byZero S l0A)) (l2I).toNatClampNeg) S fun v2 S3 => ¬ (l3I < 0 ∨ S3.len (wkAd (gMachines_byZero S3 l0A)) ≤ (l3I).toNatClampNeg) ∧ rX9_at F l1A (S3.rI (wkAd (gMachines_byZero S3 l0A)) (l3I).toNatClampNeg) S3 fun v8 S9 => if v2 = v8 then (¬ (l2I < 0 ∨ S9.len (wkAd (gMachines_byOne S9 l0A)) ≤ (l2I).toNatClampNeg) ∧ rX9_at F l1A (S9.rI (wkAd (gMachines_byOne S9 l0A)) (l2I).toNatClampNeg) S9 fun v15 S16 => ¬ (l3I < 0 ∨ S16.len (wkAd (gMachines_byOne S16 l0A)) ≤ (l3I).toNatClampNeg) ∧ rX9_at F l1A (S16.rI (wkAd (gMachines_byOne S16 l0A)) (l3I).toNatClampNeg) S16 fun v21 S22 => if v15 = v21 then (Φ (1 : Int32) S22) else (Φ (0 : Int32) S22)) else (Φ (0 : Int32) S9)
set_option maxHeartbeats 4000000 in
set_option maxRecDepth 100000 in
theorem tX6_goAlike {l : Launch} {g : wkG} {F : Nat}  {S : wPS} {l0A : Nat} {l1A : Nat} {l2I : Int32} {l3I : Int32} {Φ : (Int32 → wPS → Prop)} (hW : wkWF S) (hl0A : wkIs S l0A 6) (hl1A : wkIs S l1A 9) (h : rX6_goAlike F l0A l1A l2I l3I S Φ) : wkMet l g yX6_goAlike wvX6_goAlike 1 0 0 [.ref l0A, .ref l1A, .int l2I, .int l3I] S (fun v' S'' => ∃ v : Int32, v' = some (.int v) ∧ Φ v S'' ∧ wkWF S'' ∧ wkExt S S'') := by
  refine wkMet_of (ret := (some .boolean)) (by decide) rfl (Nat.le_of_ble_eq_true rfl) (fun X hg C hR E => ?_)
  subst hg
  have hE : wkExt S S := wkExt.rf
  have hd : 1 ≤ 1 := Nat.le_refl _
  show wkGo l X 4 0 0 0 S [some (.ref l0A), some (.ref l1A), some (.int l2I), some (.int l3I)] []
  unfold rX6_goAlike at h
  refine wk_aload_n C dX6_goAlike_0 rfl rfl ?_
  refine wk_aload_n C dX6_goAlike_1 rfl rfl ?_
  refine wk_get C huX6_goAlike_6 hl0A.1 (fun cy => wAt_6 cy _ hl0A.2) rfl 0 (by decide) (List.mem_of_getElem? (i := 1) rfl) rfl (congrArg some (congrArg va_rf (wf_Machines_byZero hW hl0A).1)) dX6_goAlike_2 ?_
  refine wk_iload_n C dX6_goAlike_5 rfl rfl ?_
  obtain ⟨i1, h⟩ := h
  refine wk_iald C (wf_Machines_byZero hW hl0A).2.1 (wf_Machines_byZero hW hl0A).2.2 i1 rfl dX6_goAlike_6 ?_
  refine wk_callV C hR (As := [.int (S.rI (wkAd (gMachines_byZero S l0A)) (l2I).toNatClampNeg)]) (cnt := 1) (tX9_at (l := l) hW hl1A h) rfl (wkGoodV (List.mem_of_getElem? (i := 2) rfl) (List.mem_of_getElem? (i := 3) rfl) (List.mem_of_getElem? (i := 4) rfl) (List.mem_of_getElem? (i := 5) rfl) hbX6_goAlike_X9_at gdX9_at) (Nat.le_trans (by decide : 0 + 1 ≤ 1) hd) (by decide) hl1A.1 (fun cy => wAt_9 cy _ hl1A.2) rfl ⟨by decide, by decide, by decide +kernel⟩ rfl rfl (Nat.le_of_ble_eq_true rfl) (Nat.le_refl 0) (Nat.le_refl 0) dX6_goAlike_7 (fun v' S3 hp => ?_)
  obtain ⟨v2, rfl, h, hWS3, hXS3⟩ := hp
  refine wk_aload_n C dX6_goAlike_10 rfl rfl ?_
  refine wk_aload_n C dX6_goAlike_11 rfl rfl ?_
  refine wk_get C huX6_goAlike_6 (hXS3 _ _ hl0A).1 (fun cy => wAt_6 cy _ (hXS3 _ _ hl0A).2) rfl 0 (by decide) (List.mem_of_getElem? (i := 1) rfl) rfl (congrArg some (congrArg va_rf (wf_Machines_byZero hWS3 (hXS3 _ _ hl0A)).1)) dX6_goAlike_12 ?_
  refine wk_iload_n C dX6_goAlike_15 rfl rfl ?_
  obtain ⟨i7, h⟩ := h
  refine wk_iald C (wf_Machines_byZero hWS3 (hXS3 _ _ hl0A)).2.1 (wf_Machines_byZero hWS3 (hXS3 _ _ hl0A)).2.2 i7 rfl dX6_goAlike_16 ?_
  refine wk_callV C hR (As := [.int (S3.rI (wkAd (gMachines_byZero S3 l0A)) (l3I).toNatClampNeg)]) (cnt := 1) (tX9_at (l := l) hWS3 (hXS3 _ _ hl1A) h) rfl (wkGoodV (List.mem_of_getElem? (i := 2) rfl) (List.mem_of_getElem? (i := 3) rfl) (List.mem_of_getElem? (i := 4) rfl) (List.mem_of_getElem? (i := 5) rfl) hbX6_goAlike_X9_at gdX9_at) (Nat.le_trans (by decide : 0 + 1 ≤ 1) hd) (by decide) (hXS3 _ _ hl1A).1 (fun cy => wAt_9 cy _ (hXS3 _ _ hl1A).2) rfl ⟨by decide, by decide, by decide +kernel⟩ rfl rfl (Nat.le_of_ble_eq_true rfl) (Nat.le_refl 0) (Nat.le_refl 0) dX6_goAlike_17 (fun v' S9 hp => ?_)
  obtain ⟨v8, rfl, h, hWS9, hXS9⟩ := hp
  refine wk_icmp_ne C (tgt := 50) dX6_goAlike_20 (by decide) (fun c13 => ?_) (fun c13 => ?_)
  · rw [if_neg c13] at h
    refine wk_iconst C (v := 0) dX6_goAlike_50 (by decide) ?_
    exact E _ _ _ _ _ _ (Nat.le_refl 0) (Nat.le_refl 0) dX6_goAlike_51 rfl ⟨(0 : Int32), rfl, h, hWS9, (wkExt.tr (wkExt.tr hE hXS3) hXS9)⟩
  · rw [if_pos c13] at h
    refine wk_aload_n C dX6_goAlike_23 rfl rfl ?_
    refine wk_aload_n C dX6_goAlike_24 rfl rfl ?_
    refine wk_get C huX6_goAlike_6 (hXS9 _ _ (hXS3 _ _ hl0A)).1 (fun cy => wAt_6 cy _ (hXS9 _ _ (hXS3 _ _ hl0A)).2) rfl 1 (by decide) (List.mem_of_getElem? (i := 6) rfl) rfl (congrArg some (congrArg va_rf (wf_Machines_byOne hWS9 (hXS9 _ _ (hXS3 _ _ hl0A))).1)) dX6_goAlike_25 ?_
    refine wk_iload_n C dX6_goAlike_28 rfl rfl ?_
    obtain ⟨i14, h⟩ := h
    refine wk_iald C (wf_Machines_byOne hWS9 (hXS9 _ _ (hXS3 _ _ hl0A))).2.1 (wf_Machines_byOne hWS9 (hXS9 _ _ (hXS3 _ _ hl0A))).2.2 i14 rfl dX6_goAlike_29 ?_
    refine wk_callV C hR (As := [.int (S9.rI (wkAd (gMachines_byOne S9 l0A)) (l2I).toNatClampNeg)]) (cnt := 1) (tX9_at (l := l) hWS9 (hXS9 _ _ (hXS3 _ _ hl1A)) h) rfl (wkGoodV (List.mem_of_getElem? (i := 2) rfl) (List.mem_of_getElem? (i := 3) rfl) (List.mem_of_getElem? (i := 4) rfl) (List.mem_of_getElem? (i := 5) rfl) hbX6_goAlike_X9_at gdX9_at) (Nat.le_trans (by decide : 0 + 1 ≤ 1) hd) (by decide) (hXS9 _ _ (hXS3 _ _ hl1A)).1 (fun cy => wAt_9 cy _ (hXS9 _ _ (hXS3 _ _ hl1A)).2) rfl ⟨by decide, by decide, by decide +kernel⟩ rfl rfl (Nat.le_of_ble_eq_true rfl) (Nat.le_refl 0) (Nat.le_refl 0) dX6_goAlike_30 (fun v' S16 hp => ?_)
    obtain ⟨v15, rfl, h, hWS16, hXS16⟩ := hp
    refine wk_aload_n C dX6_goAlike_33 rfl rfl ?_
    refine wk_aload_n C dX6_goAlike_34 rfl rfl ?_
    refine wk_get C huX6_goAlike_6 (hXS16 _ _ (hXS9 _ _ (hXS3 _ _ hl0A))).1 (fun cy => wAt_6 cy _ (hXS16 _ _ (hXS9 _ _ (hXS3 _ _ hl0A))).2) rfl 1 (by decide) (List.mem_of_getElem? (i := 6) rfl) rfl (congrArg some (congrArg va_rf (wf_Machines_byOne hWS16 (hXS16 _ _ (hXS9 _ _ (hXS3 _ _ hl0A)))).1)) dX6_goAlike_35 ?_
    refine wk_iload_n C dX6_goAlike_38 rfl rfl ?_
    obtain ⟨i20, h⟩ := h
    refine wk_iald C (wf_Machines_byOne hWS16 (hXS16 _ _ (hXS9 _ _ (hXS3 _ _ hl0A)))).2.1 (wf_Machines_byOne hWS16 (hXS16 _ _ (hXS9 _ _ (hXS3 _ _ hl0A)))).2.2 i20 rfl dX6_goAlike_39 ?_
    refine wk_callV C hR (As := [.int (S16.rI (wkAd (gMachines_byOne S16 l0A)) (l3I).toNatClampNeg)]) (cnt := 1) (tX9_at (l := l) hWS16 (hXS16 _ _ (hXS9 _ _ (hXS3 _ _ hl1A))) h) rfl (wkGoodV (List.mem_of_getElem? (i := 2) rfl) (List.mem_of_getElem? (i := 3) rfl) (List.mem_of_getElem? (i := 4) rfl) (List.mem_of_getElem? (i := 5) rfl) hbX6_goAlike_X9_at gdX9_at) (Nat.le_trans (by decide : 0 + 1 ≤ 1) hd) (by decide) (hXS16 _ _ (hXS9 _ _ (hXS3 _ _ hl1A))).1 (fun cy => wAt_9 cy _ (hXS16 _ _ (hXS9 _ _ (hXS3 _ _ hl1A))).2) rfl ⟨by decide, by decide, by decide +kernel⟩ rfl rfl (Nat.le_of_ble_eq_true rfl) (Nat.le_refl 0) (Nat.le_refl 0) dX6_goAlike_40 (fun v' S22 hp => ?_)
    obtain ⟨v21, rfl, h, hWS22, hXS22⟩ := hp
    refine wk_icmp_ne C (tgt := 50) dX6_goAlike_43 (by decide) (fun c26 => ?_) (fun c26 => ?_)
    · rw [if_neg c26] at h
      refine wk_iconst C (v := 0) dX6_goAlike_50 (by decide) ?_
      exact E _ _ _ _ _ _ (Nat.le_refl 0) (Nat.le_refl 0) dX6_goAlike_51 rfl ⟨(0 : Int32), rfl, h, hWS22, (wkExt.tr (wkExt.tr (wkExt.tr (wkExt.tr hE hXS3) hXS9) hXS16) hXS22)⟩
    · rw [if_pos c26] at h
      refine wk_iconst C (v := 1) dX6_goAlike_46 (by decide) ?_
      refine wk_goto C (tgt := 51) dX6_goAlike_47 (by decide) ?_
      exact E _ _ _ _ _ _ (Nat.le_refl 0) (Nat.le_refl 0) dX6_goAlike_51 rfl ⟨(1 : Int32), rfl, h, hWS22, (wkExt.tr (wkExt.tr (wkExt.tr (wkExt.tr hE hXS3) hXS9) hXS16) hXS22)⟩
def wvX6_judgeLetters : List Cond := .code yX6_judgeLetters cX6_judgeLetters 7 (some .int) :: (([.fieldLink RX6 93 "Witnessworks$Row" "count" "I", .fieldLink RX6 18 "Witnessworks$Machines" "finals" "[I", .methodLink RX6 99 yX9_at, .instanceMethod yX9_at, .selects RX9 yX9_at yX9_at, .initialized RX9, .fieldLink RX6 15 "Witnessworks$Machines" "byOne" "[I", .fieldLink RX6 11 "Witnessworks$Machines" "byZero" "[I", .methodLink RX6 80 yX6_loadStates, .instanceMethod yX6_loadStates, .selects RX6 yX6_loadStates yX6_loadStates, .initialized RX6, .methodLink RX6 96 yX9_liesWithin, .instanceMethod yX9_liesWithin, .selects RX9 yX9_liesWithin yX9_liesWithin, .methodLink RX6 37 yX3_nodeAsked, .instanceMethod yX3_nodeAsked, .selects RX3 yX3_nodeAsked yX3_nodeAsked, .initialized RX3] : List Cond) ++ ((wsX90 ++ (wsX60)) ++ (wvX9_at ++ (wvX6_loadStates ++ (wvX9_liesWithin ++ (wvX3_nodeAsked))))))
theorem huX6_judgeLetters_9 : ∀ w ∈ u_ws RX9 TX9 2, w ∈ wvX6_judgeLetters := fun w h => List.mem_cons_of_mem _ (List.mem_append_right _ (List.mem_append_left _ (List.mem_append_left _ h)))
theorem huX6_judgeLetters_6 : ∀ w ∈ u_ws RX6 TX6 8, w ∈ wvX6_judgeLetters := fun w h => List.mem_cons_of_mem _ (List.mem_append_right _ (List.mem_append_left _ (List.mem_append_right _ h)))
theorem hbX6_judgeLetters_X9_at : ∀ w ∈ wvX9_at, w ∈ wvX6_judgeLetters := fun w h => List.mem_cons_of_mem _ (List.mem_append_right _ (List.mem_append_right _ (List.mem_append_left _ h)))
theorem hbX6_judgeLetters_X6_loadStates : ∀ w ∈ wvX6_loadStates, w ∈ wvX6_judgeLetters := fun w h => List.mem_cons_of_mem _ (List.mem_append_right _ (List.mem_append_right _ (List.mem_append_right _ (List.mem_append_left _ h))))
theorem hbX6_judgeLetters_X9_liesWithin : ∀ w ∈ wvX9_liesWithin, w ∈ wvX6_judgeLetters := fun w h => List.mem_cons_of_mem _ (List.mem_append_right _ (List.mem_append_right _ (List.mem_append_right _ (List.mem_append_right _ (List.mem_append_left _ h)))))
theorem hbX6_judgeLetters_X3_nodeAsked : ∀ w ∈ wvX3_nodeAsked, w ∈ wvX6_judgeLetters := fun w h => List.mem_cons_of_mem _ (List.mem_append_right _ (List.mem_append_right _ (List.mem_append_right _ (List.mem_append_right _ (List.mem_append_right _ h)))))
theorem gdX6_judgeLetters : ∀ w ∈ wvX6_judgeLetters, wkGd w := wkGdC rfl (wkGdA (wkGdL (by decide +kernel)) (wkGdA (wkGdA gdX9 gdX6) (wkGdA gdX9_at (wkGdA gdX6_loadStates (wkGdA gdX9_liesWithin gdX3_nodeAsked)))))
def rX6_judgeLetters_b0 (F : Nat) (rec : Nat → Nat → Nat → Int32 → Int32 → Int32 → Int32 → wPS → (Int32 → wPS → Prop) → Prop) (l0A : Nat) (l2A : Nat) (l3I : Int32) (l4I : Int32) (l5I : Int32) (S : wPS) (Φ : (Int32 → wPS → Prop)) : Prop :=
  if (gRow_count S l2A) ≤ l5I then (¬ (l3I < 0 ∨ S.len (wkAd (gMachines_finals S l0A)) ≤ (l3I).toNatClampNeg) ∧ ¬ (l4I < 0 ∨ S.len (wkAd (gMachines_finals S l0A)) ≤ (l4I).toNatClampNeg) ∧ if (S.rI (wkAd (gMachines_finals S l0A)) (l3I).toNatClampNeg) = (S.rI (wkAd (gMachines_finals S l0A)) (l4I).toNatClampNeg) then (Φ (2 : Int32) S) else (Φ (0 : Int32) S)) else (rX9_at F l2A l5I S fun v5 S6 => if v5 = 0 then (rec 1 l0A l2A l3I l4I l5I (1 : Int32) S6 Φ) else (rec 1 l0A l2A l3I l4I l5I (0 : Int32) S6 Φ))
def rX6_judgeLetters_b1 (F : Nat) (rec : Nat → Nat → Nat → Int32 → Int32 → Int32 → Int32 → wPS → (Int32 → wPS → Prop) → Prop) (l0A : Nat) (l2A : Nat) (l3I : Int32) (l4I : Int32) (l5I : Int32) (s0I : Int32) (S : wPS) (Φ : (Int32 → wPS → Prop)) : Prop :=
  if s0I = 0 then (¬ (l3I < 0 ∨ S.len (wkAd (gMachines_byOne S l0A)) ≤ (l3I).toNatClampNeg) ∧ wkLt ((S.rI (wkAd (gMachines_byOne S l0A)) (l3I).toNatClampNeg)) fun x13 => if s0I = 0 then (¬ (l4I < 0 ∨ S.len (wkAd (gMachines_byOne S l0A)) ≤ (l4I).toNatClampNeg) ∧ wkLt ((S.rI (wkAd (gMachines_byOne S l0A)) (l4I).toNatClampNeg)) fun x16 => wkLt (l5I + (1 : Int32)) fun x17 => rec 0 l0A l2A x13 x16 x17 0 S Φ) else (¬ (l4I < 0 ∨ S.len (wkAd (gMachines_byZero S l0A)) ≤ (l4I).toNatClampNeg) ∧ wkLt ((S.rI (wkAd (gMachines_byZero S l0A)) (l4I).toNatClampNeg)) fun x19 => wkLt (l5I + (1 : Int32)) fun x20 => rec 0 l0A l2A x13 x19 x20 0 S Φ)) else (¬ (l3I < 0 ∨ S.len (wkAd (gMachines_byZero S l0A)) ≤ (l3I).toNatClampNeg) ∧ wkLt ((S.rI (wkAd (gMachines_byZero S l0A)) (l3I).toNatClampNeg)) fun x22 => if s0I = 0 then (¬ (l4I < 0 ∨ S.len (wkAd (gMachines_byOne S l0A)) ≤ (l4I).toNatClampNeg) ∧ wkLt ((S.rI (wkAd (gMachines_byOne S l0A)) (l4I).toNatClampNeg)) fun x25 => wkLt (l5I + (1 : Int32)) fun x26 => rec 0 l0A l2A x22 x25 x26 0 S Φ) else (¬ (l4I < 0 ∨ S.len (wkAd (gMachines_byZero S l0A)) ≤ (l4I).toNatClampNeg) ∧ wkLt ((S.rI (wkAd (gMachines_byZero S l0A)) (l4I).toNatClampNeg)) fun x28 => wkLt (l5I + (1 : Int32)) fun x29 => rec 0 l0A l2A x22 x28 x29 0 S Φ))
def rX6_judgeLetters_go (F : Nat) : Nat → Nat → Nat → Nat → Int32 → Int32 → Int32 → Int32 → wPS → (Int32 → wPS → Prop) → Prop
  | 0, _, _, _, _, _, _, _, _, _ => False
  | k' + 1, lab, l0A, l2A, l3I, l4I, l5I, s0I, S, Φ => if lab = 0 then rX6_judgeLetters_b0 F (rX6_judgeLetters_go F k') l0A l2A l3I l4I l5I S Φ else if lab = 1 then rX6_judgeLetters_b1 F (rX6_judgeLetters_go F k') l0A l2A l3I l4I l5I s0I S Φ else False
def rX6_judgeLetters_s (F : Nat) (rec : Nat → Nat → Nat → Int32 → Int32 → Int32 → Int32 → wPS → (Int32 → wPS → Prop) → Prop) (l0A : Nat) (l1A : Nat) (l2A : Nat) (S : wPS) (Φ : (Int32 → wPS → Prop)) : Prop :=
  rX6_loadStates F l0A l1A S fun v30 S31 => rX9_liesWithin F l2A (0 : Int32) (0 : Int32) (1 : Int32) S31 fun v35 S36 => if v35 = 0 then (Φ (1 : Int32) S36) else (rX3_nodeAsked F l1A S36 fun v41 S42 => rec 0 l0A l2A (0 : Int32) v41 (0 : Int32) 0 S42 Φ)
def rX6_judgeLetters (F : Nat) (l0A : Nat) (l1A : Nat) (l2A : Nat) (S : wPS) (Φ : (Int32 → wPS → Prop)) : Prop := rX6_judgeLetters_s F (rX6_judgeLetters_go F F) l0A l1A l2A S Φ
set_option maxHeartbeats 4000000 in
set_option maxRecDepth 100000 in
theorem tX6_judgeLetters_go {l : Launch} {X : wkX} {d F : Nat} {S0 : wPS} {Φ : (Int32 → wPS → Prop)} (C : wkC X cX6_judgeLetters RX6 7 wvX6_judgeLetters) (hR : wkRm X d 0 0) (hd : 2 ≤ d) (E : wkEnd l X cX6_judgeLetters 7 (some .int) 0 0 (fun v' S'' => ∃ v : Int32, v' = some (.int v) ∧ Φ v S'' ∧ wkWF S'' ∧ wkExt S0 S'')) : ∀ k' : Nat, (∀ (l0A : Nat) (l2A : Nat) (l3I : Int32) (l4I : Int32) (l5I : Int32) (S : wPS), wkWF S → wkExt S0 S → wkIs S l0A 6 → wkIs S l2A 9 → rX6_judgeLetters_go F k' 0 l0A l2A l3I l4I l5I 0 S Φ → wkGo l X 7 0 0 28 S [some (.ref l0A), none, some (.ref l2A), some (.int l3I), some (.int l4I), some (.int l5I), none] []) ∧ (∀ (l0A : Nat) (l2A : Nat) (l3I : Int32) (l4I : Int32) (l5I : Int32) (s0I : Int32) (S : wPS), wkWF S → wkExt S0 S → wkIs S l0A 6 → wkIs S l2A 9 → rX6_judgeLetters_go F k' 1 l0A l2A l3I l4I l5I s0I S Φ → wkGo l X 7 0 0 51 S [some (.ref l0A), none, some (.ref l2A), some (.int l3I), some (.int l4I), some (.int l5I), none] [.int s0I]) := by
  intro k'
  induction k' with
  | zero => exact ⟨fun l0A l2A l3I l4I l5I S hW hE hl0A hl2A h => h.elim, fun l0A l2A l3I l4I l5I s0I S hW hE hl0A hl2A h => h.elim⟩
  | succ k' ih =>
    refine ⟨?_, ?_⟩
    · intro l0A l2A l3I l4I l5I S hW hE hl0A hl2A h
      have h : rX6_judgeLetters_b0 F (rX6_judgeLetters_go F k') l0A l2A l3I l4I l5I S Φ := by
        rw [rX6_judgeLetters_go, if_pos (rfl : (0 : Nat) = 0)] at h
        exact h
      unfold rX6_judgeLetters_b0 at h
      refine wk_iload C dX6_judgeLetters_28 rfl ?_
      refine wk_aload_n C dX6_judgeLetters_30 rfl rfl ?_
      refine wk_get C (v := .int (gRow_count S l2A)) huX6_judgeLetters_9 hl2A.1 (fun cy => wAt_9 cy _ hl2A.2) rfl 1 (by decide) (List.mem_of_getElem? (i := 1) rfl) rfl rfl dX6_judgeLetters_31 ?_
      refine wk_icmp_ge C (tgt := 104) dX6_judgeLetters_34 (by decide) (fun c1 => ?_) (fun c1 => ?_)
      · rw [if_pos c1] at h
        refine wk_aload_n C dX6_judgeLetters_104 rfl rfl ?_
        refine wk_get C huX6_judgeLetters_6 hl0A.1 (fun cy => wAt_6 cy _ hl0A.2) rfl 2 (by decide) (List.mem_of_getElem? (i := 2) rfl) rfl (congrArg some (congrArg va_rf (wf_Machines_finals hW hl0A).1)) dX6_judgeLetters_105 ?_
        refine wk_iload_n C dX6_judgeLetters_108 rfl rfl ?_
        obtain ⟨i2, h⟩ := h
        refine wk_iald C (wf_Machines_finals hW hl0A).2.1 (wf_Machines_finals hW hl0A).2.2 i2 rfl dX6_judgeLetters_109 ?_
        refine wk_aload_n C dX6_judgeLetters_110 rfl rfl ?_
        refine wk_get C huX6_judgeLetters_6 hl0A.1 (fun cy => wAt_6 cy _ hl0A.2) rfl 2 (by decide) (List.mem_of_getElem? (i := 2) rfl) rfl (congrArg some (congrArg va_rf (wf_Machines_finals hW hl0A).1)) dX6_judgeLetters_111 ?_
        refine wk_iload C dX6_judgeLetters_114 rfl ?_
        obtain ⟨i3, h⟩ := h
        refine wk_iald C (wf_Machines_finals hW hl0A).2.1 (wf_Machines_finals hW hl0A).2.2 i3 rfl dX6_judgeLetters_116 ?_
        refine wk_icmp_eq C (tgt := 124) dX6_judgeLetters_117 (by decide) (fun c4 => ?_) (fun c4 => ?_)
        · rw [if_pos c4] at h
          refine wk_iconst C (v := 2) dX6_judgeLetters_124 (by decide) ?_
          exact E _ _ _ _ _ _ (Nat.le_refl 0) (Nat.le_refl 0) dX6_judgeLetters_125 ⟨(2 : Int32), rfl, h, hW, hE⟩
        · rw [if_neg c4] at h
          refine wk_iconst C (v := 0) dX6_judgeLetters_120 (by decide) ?_
          refine wk_goto C (tgt := 125) dX6_judgeLetters_121 (by decide) ?_
          exact E _ _ _ _ _ _ (Nat.le_refl 0) (Nat.le_refl 0) dX6_judgeLetters_125 ⟨(0 : Int32), rfl, h, hW, hE⟩
      · rw [if_neg c1] at h
        refine wk_aload_n C dX6_judgeLetters_37 rfl rfl ?_
        refine wk_iload C dX6_judgeLetters_38 rfl ?_
        refine wk_callV C hR (As := [.int l5I]) (cnt := 1) (tX9_at (l := l) hW hl2A h) rfl (wkGoodV (List.mem_of_getElem? (i := 3) rfl) (List.mem_of_getElem? (i := 4) rfl) (List.mem_of_getElem? (i := 5) rfl) (List.mem_of_getElem? (i := 6) rfl) hbX6_judgeLetters_X9_at gdX9_at) (Nat.le_trans (by decide : 0 + 1 ≤ 2) hd) (by decide) hl2A.1 (fun cy => wAt_9 cy _ hl2A.2) rfl ⟨by decide, by decide, by decide +kernel⟩ rfl rfl (Nat.le_of_ble_eq_true rfl) (Nat.le_refl 0) (Nat.le_refl 0) dX6_judgeLetters_40 (fun v' S6 hp => ?_)
        obtain ⟨v5, rfl, h, hWS6, hXS6⟩ := hp
        refine wk_if_ne C (tgt := 50) dX6_judgeLetters_43 (by decide) (fun c10 => ?_) (fun c10 => ?_)
        · rw [if_neg c10] at h
          refine wk_iconst C (v := 0) dX6_judgeLetters_50 (by decide) ?_
          exact wk_forget (lv' := [some (.ref l0A), none, some (.ref l2A), some (.int l3I), some (.int l4I), some (.int l5I), none]) (wkLs.le ⟨rfl, rfl, rfl, rfl, rfl, trivial⟩) (ih.2 _ _ _ _ _ _ _ hWS6 (wkExt.tr hE hXS6) (hXS6 _ _ hl0A) (hXS6 _ _ hl2A) h)
        · rw [if_pos c10] at h
          refine wk_iconst C (v := 1) dX6_judgeLetters_46 (by decide) ?_
          refine wk_goto C (tgt := 51) dX6_judgeLetters_47 (by decide) ?_
          exact wk_forget (lv' := [some (.ref l0A), none, some (.ref l2A), some (.int l3I), some (.int l4I), some (.int l5I), none]) (wkLs.le ⟨rfl, rfl, rfl, rfl, rfl, trivial⟩) (ih.2 _ _ _ _ _ _ _ hWS6 (wkExt.tr hE hXS6) (hXS6 _ _ hl0A) (hXS6 _ _ hl2A) h)
    · intro l0A l2A l3I l4I l5I s0I S hW hE hl0A hl2A h
      have h : rX6_judgeLetters_b1 F (rX6_judgeLetters_go F k') l0A l2A l3I l4I l5I s0I S Φ := by
        rw [rX6_judgeLetters_go, if_neg (show ¬ (1 : Nat) = 0 by decide), if_pos (rfl : (1 : Nat) = 1)] at h
        exact h
      unfold rX6_judgeLetters_b1 at h
      refine wk_istore C (lv' := [some (.ref l0A), none, some (.ref l2A), some (.int l3I), some (.int l4I), some (.int l5I), some (.int s0I)]) dX6_judgeLetters_51 (by decide) rfl ?_
      refine wk_iload C dX6_judgeLetters_53 rfl ?_
      refine wk_if_eq C (tgt := 67) dX6_judgeLetters_55 (by decide) (fun c11 => ?_) (fun c11 => ?_)
      · rw [if_pos c11] at h
        refine wk_aload_n C dX6_judgeLetters_67 rfl rfl ?_
        refine wk_get C huX6_judgeLetters_6 hl0A.1 (fun cy => wAt_6 cy _ hl0A.2) rfl 1 (by decide) (List.mem_of_getElem? (i := 7) rfl) rfl (congrArg some (congrArg va_rf (wf_Machines_byOne hW hl0A).1)) dX6_judgeLetters_68 ?_
        refine wk_iload_n C dX6_judgeLetters_71 rfl rfl ?_
        obtain ⟨i12, h⟩ := h
        refine wk_iald C (wf_Machines_byOne hW hl0A).2.1 (wf_Machines_byOne hW hl0A).2.2 i12 rfl dX6_judgeLetters_72 ?_
        obtain ⟨x13, ex13, h⟩ := wkLt_some h
        refine wk_topi ex13 ?_
        refine wk_istore_n C (lv' := [some (.ref l0A), none, some (.ref l2A), some (.int x13), some (.int l4I), some (.int l5I), some (.int s0I)]) dX6_judgeLetters_73 rfl (by decide) rfl ?_
        refine wk_iload C dX6_judgeLetters_74 rfl ?_
        refine wk_if_eq C (tgt := 89) dX6_judgeLetters_76 (by decide) (fun c14 => ?_) (fun c14 => ?_)
        · rw [if_pos c14] at h
          refine wk_aload_n C dX6_judgeLetters_89 rfl rfl ?_
          refine wk_get C huX6_judgeLetters_6 hl0A.1 (fun cy => wAt_6 cy _ hl0A.2) rfl 1 (by decide) (List.mem_of_getElem? (i := 7) rfl) rfl (congrArg some (congrArg va_rf (wf_Machines_byOne hW hl0A).1)) dX6_judgeLetters_90 ?_
          refine wk_iload C dX6_judgeLetters_93 rfl ?_
          obtain ⟨i15, h⟩ := h
          refine wk_iald C (wf_Machines_byOne hW hl0A).2.1 (wf_Machines_byOne hW hl0A).2.2 i15 rfl dX6_judgeLetters_95 ?_
          obtain ⟨x16, ex16, h⟩ := wkLt_some h
          refine wk_topi ex16 ?_
          refine wk_istore C (lv' := [some (.ref l0A), none, some (.ref l2A), some (.int x13), some (.int x16), some (.int l5I), some (.int s0I)]) dX6_judgeLetters_96 (by decide) rfl ?_
          obtain ⟨x17, ex17, h⟩ := wkLt_some h
          refine wk_iinc C (lv' := [some (.ref l0A), none, some (.ref l2A), some (.int x13), some (.int x16), some (.int x17), some (.int s0I)]) dX6_judgeLetters_98 rfl (by rw [ex17]; rfl) (by decide) rfl ?_
          refine wk_goto C (tgt := 28) dX6_judgeLetters_101 (by decide) ?_
          exact wk_forget (lv' := [some (.ref l0A), none, some (.ref l2A), some (.int x13), some (.int x16), some (.int x17), none]) (wkLs.le ⟨rfl, rfl, rfl, rfl, rfl, trivial⟩) (ih.1 _ _ _ _ _ _ hW hE hl0A hl2A h)
        · rw [if_neg c14] at h
          refine wk_aload_n C dX6_judgeLetters_79 rfl rfl ?_
          refine wk_get C huX6_judgeLetters_6 hl0A.1 (fun cy => wAt_6 cy _ hl0A.2) rfl 0 (by decide) (List.mem_of_getElem? (i := 8) rfl) rfl (congrArg some (congrArg va_rf (wf_Machines_byZero hW hl0A).1)) dX6_judgeLetters_80 ?_
          refine wk_iload C dX6_judgeLetters_83 rfl ?_
          obtain ⟨i18, h⟩ := h
          refine wk_iald C (wf_Machines_byZero hW hl0A).2.1 (wf_Machines_byZero hW hl0A).2.2 i18 rfl dX6_judgeLetters_85 ?_
          refine wk_goto C (tgt := 96) dX6_judgeLetters_86 (by decide) ?_
          obtain ⟨x19, ex19, h⟩ := wkLt_some h
          refine wk_topi ex19 ?_
          refine wk_istore C (lv' := [some (.ref l0A), none, some (.ref l2A), some (.int x13), some (.int x19), some (.int l5I), some (.int s0I)]) dX6_judgeLetters_96 (by decide) rfl ?_
          obtain ⟨x20, ex20, h⟩ := wkLt_some h
          refine wk_iinc C (lv' := [some (.ref l0A), none, some (.ref l2A), some (.int x13), some (.int x19), some (.int x20), some (.int s0I)]) dX6_judgeLetters_98 rfl (by rw [ex20]; rfl) (by decide) rfl ?_
          refine wk_goto C (tgt := 28) dX6_judgeLetters_101 (by decide) ?_
          exact wk_forget (lv' := [some (.ref l0A), none, some (.ref l2A), some (.int x13), some (.int x19), some (.int x20), none]) (wkLs.le ⟨rfl, rfl, rfl, rfl, rfl, trivial⟩) (ih.1 _ _ _ _ _ _ hW hE hl0A hl2A h)
      · rw [if_neg c11] at h
        refine wk_aload_n C dX6_judgeLetters_58 rfl rfl ?_
        refine wk_get C huX6_judgeLetters_6 hl0A.1 (fun cy => wAt_6 cy _ hl0A.2) rfl 0 (by decide) (List.mem_of_getElem? (i := 8) rfl) rfl (congrArg some (congrArg va_rf (wf_Machines_byZero hW hl0A).1)) dX6_judgeLetters_59 ?_
        refine wk_iload_n C dX6_judgeLetters_62 rfl rfl ?_
        obtain ⟨i21, h⟩ := h
        refine wk_iald C (wf_Machines_byZero hW hl0A).2.1 (wf_Machines_byZero hW hl0A).2.2 i21 rfl dX6_judgeLetters_63 ?_
        refine wk_goto C (tgt := 73) dX6_judgeLetters_64 (by decide) ?_
        obtain ⟨x22, ex22, h⟩ := wkLt_some h
        refine wk_topi ex22 ?_
        refine wk_istore_n C (lv' := [some (.ref l0A), none, some (.ref l2A), some (.int x22), some (.int l4I), some (.int l5I), some (.int s0I)]) dX6_judgeLetters_73 rfl (by decide) rfl ?_
        refine wk_iload C dX6_judgeLetters_74 rfl ?_
        refine wk_if_eq C (tgt := 89) dX6_judgeLetters_76 (by decide) (fun c23 => ?_) (fun c23 => ?_)
        · rw [if_pos c23] at h
          refine wk_aload_n C dX6_judgeLetters_89 rfl rfl ?_
          refine wk_get C huX6_judgeLetters_6 hl0A.1 (fun cy => wAt_6 cy _ hl0A.2) rfl 1 (by decide) (List.mem_of_getElem? (i := 7) rfl) rfl (congrArg some (congrArg va_rf (wf_Machines_byOne hW hl0A).1)) dX6_judgeLetters_90 ?_
          refine wk_iload C dX6_judgeLetters_93 rfl ?_
          obtain ⟨i24, h⟩ := h
          refine wk_iald C (wf_Machines_byOne hW hl0A).2.1 (wf_Machines_byOne hW hl0A).2.2 i24 rfl dX6_judgeLetters_95 ?_
          obtain ⟨x25, ex25, h⟩ := wkLt_some h
          refine wk_topi ex25 ?_
          refine wk_istore C (lv' := [some (.ref l0A), none, some (.ref l2A), some (.int x22), some (.int x25), some (.int l5I), some (.int s0I)]) dX6_judgeLetters_96 (by decide) rfl ?_
          obtain ⟨x26, ex26, h⟩ := wkLt_some h
          refine wk_iinc C (lv' := [some (.ref l0A), none, some (.ref l2A), some (.int x22), some (.int x25), some (.int x26), some (.int s0I)]) dX6_judgeLetters_98 rfl (by rw [ex26]; rfl) (by decide) rfl ?_
          refine wk_goto C (tgt := 28) dX6_judgeLetters_101 (by decide) ?_
          exact wk_forget (lv' := [some (.ref l0A), none, some (.ref l2A), some (.int x22), some (.int x25), some (.int x26), none]) (wkLs.le ⟨rfl, rfl, rfl, rfl, rfl, trivial⟩) (ih.1 _ _ _ _ _ _ hW hE hl0A hl2A h)
        · rw [if_neg c23] at h
          refine wk_aload_n C dX6_judgeLetters_79 rfl rfl ?_
          refine wk_get C huX6_judgeLetters_6 hl0A.1 (fun cy => wAt_6 cy _ hl0A.2) rfl 0 (by decide) (List.mem_of_getElem? (i := 8) rfl) rfl (congrArg some (congrArg va_rf (wf_Machines_byZero hW hl0A).1)) dX6_judgeLetters_80 ?_
          refine wk_iload C dX6_judgeLetters_83 rfl ?_
          obtain ⟨i27, h⟩ := h
          refine wk_iald C (wf_Machines_byZero hW hl0A).2.1 (wf_Machines_byZero hW hl0A).2.2 i27 rfl dX6_judgeLetters_85 ?_
          refine wk_goto C (tgt := 96) dX6_judgeLetters_86 (by decide) ?_
          obtain ⟨x28, ex28, h⟩ := wkLt_some h
          refine wk_topi ex28 ?_
          refine wk_istore C (lv' := [some (.ref l0A), none, some (.ref l2A), some (.int x22), some (.int x28), some (.int l5I), some (.int s0I)]) dX6_judgeLetters_96 (by decide) rfl ?_
          obtain ⟨x29, ex29, h⟩ := wkLt_some h
          refine wk_iinc C (lv' := [some (.ref l0A), none, some (.ref l2A), some (.int x22), some (.int x28), some (.int x29), some (.int s0I)]) dX6_judgeLetters_98 rfl (by rw [ex29]; rfl) (by decide) rfl ?_
          refine wk_goto C (tgt := 28) dX6_judgeLetters_101 (by decide) ?_
          exact wk_forget (lv' := [some (.ref l0A), none, some (.ref l2A), some (.int x22), some (.int x28), some (.int x29), none]) (wkLs.le ⟨rfl, rfl, rfl, rfl, rfl, trivial⟩) (ih.1 _ _ _ _ _ _ hW hE hl0A hl2A h)
set_option maxHeartbeats 4000000 in
set_option maxRecDepth 100000 in
theorem tX6_judgeLetters {l : Launch} {g : wkG} {F : Nat}  {S : wPS} {l0A : Nat} {l1A : Nat} {l2A : Nat} {Φ : (Int32 → wPS → Prop)} (hW : wkWF S) (hl0A : wkIs S l0A 6) (hl1A : wkIs S l1A 3) (hl2A : wkIs S l2A 9) (h : rX6_judgeLetters F l0A l1A l2A S Φ) : wkMet l g yX6_judgeLetters wvX6_judgeLetters 2 0 0 [.ref l0A, .ref l1A, .ref l2A] S (fun v' S'' => ∃ v : Int32, v' = some (.int v) ∧ Φ v S'' ∧ wkWF S'' ∧ wkExt S S'') := by
  refine wkMet_of (ret := (some .int)) (by decide) rfl (Nat.le_of_ble_eq_true rfl) (fun X hg C hR E => ?_)
  subst hg
  have hE : wkExt S S := wkExt.rf
  have hd : 2 ≤ 2 := Nat.le_refl _
  show wkGo l X 7 0 0 0 S [some (.ref l0A), some (.ref l1A), some (.ref l2A), none, none, none, none] []
  have ih := tX6_judgeLetters_go (F := F) C hR hd E F
  have h : rX6_judgeLetters_s F (rX6_judgeLetters_go F F) l0A l1A l2A S Φ := h
  unfold rX6_judgeLetters_s at h
  refine wk_aload_n C dX6_judgeLetters_0 rfl rfl ?_
  refine wk_aload_n C dX6_judgeLetters_1 rfl rfl ?_
  refine wk_callV C hR (As := [.ref l1A]) (cnt := 1) (tX6_loadStates (l := l) hW hl0A hl1A h) rfl (wkGoodV (List.mem_of_getElem? (i := 9) rfl) (List.mem_of_getElem? (i := 10) rfl) (List.mem_of_getElem? (i := 11) rfl) (List.mem_of_getElem? (i := 12) rfl) hbX6_judgeLetters_X6_loadStates gdX6_loadStates) (Nat.le_trans (by decide : 1 + 1 ≤ 2) hd) (by decide) hl0A.1 (fun cy => wAt_6 cy _ hl0A.2) rfl ⟨by decide, by decide, by decide +kernel⟩ rfl rfl (Nat.le_of_ble_eq_true rfl) (Nat.le_refl 0) (Nat.le_refl 0) dX6_judgeLetters_2 (fun v' S31 hp => ?_)
  obtain ⟨v30, rfl, h, hWS31, hXS31⟩ := hp
  refine wk_aload_n C dX6_judgeLetters_5 rfl rfl ?_
  refine wk_iconst C (v := 0) dX6_judgeLetters_6 (by decide) ?_
  refine wk_iconst C (v := 0) dX6_judgeLetters_7 (by decide) ?_
  refine wk_iconst C (v := 1) dX6_judgeLetters_8 (by decide) ?_
  refine wk_callV C hR (As := [.int (0 : Int32), .int (0 : Int32), .int (1 : Int32)]) (cnt := 3) (tX9_liesWithin (l := l) hWS31 (hXS31 _ _ hl2A) h) rfl (wkGoodV (List.mem_of_getElem? (i := 13) rfl) (List.mem_of_getElem? (i := 14) rfl) (List.mem_of_getElem? (i := 15) rfl) (List.mem_of_getElem? (i := 6) rfl) hbX6_judgeLetters_X9_liesWithin gdX9_liesWithin) (Nat.le_trans (by decide : 0 + 1 ≤ 2) hd) (by decide) (hXS31 _ _ hl2A).1 (fun cy => wAt_9 cy _ (hXS31 _ _ hl2A).2) rfl ⟨by decide, by decide, by decide +kernel⟩ rfl rfl (Nat.le_of_ble_eq_true rfl) (Nat.le_refl 0) (Nat.le_refl 0) dX6_judgeLetters_9 (fun v' S36 hp => ?_)
  obtain ⟨v35, rfl, h, hWS36, hXS36⟩ := hp
  refine wk_if_ne C (tgt := 17) dX6_judgeLetters_12 (by decide) (fun c40 => ?_) (fun c40 => ?_)
  · rw [if_neg c40] at h
    refine wk_iconst C (v := 0) dX6_judgeLetters_17 (by decide) ?_
    refine wk_istore_n C (lv' := [some (.ref l0A), some (.ref l1A), some (.ref l2A), some (.int (0 : Int32)), none, none, none]) dX6_judgeLetters_18 rfl (by decide) rfl ?_
    refine wk_aload_n C dX6_judgeLetters_19 rfl rfl ?_
    refine wk_callV C hR (As := []) (cnt := 0) (tX3_nodeAsked (l := l) hWS36 (hXS36 _ _ (hXS31 _ _ hl1A)) h) rfl (wkGoodV (List.mem_of_getElem? (i := 16) rfl) (List.mem_of_getElem? (i := 17) rfl) (List.mem_of_getElem? (i := 18) rfl) (List.mem_of_getElem? (i := 19) rfl) hbX6_judgeLetters_X3_nodeAsked gdX3_nodeAsked) (Nat.le_trans (by decide : 0 + 1 ≤ 2) hd) (by decide) (hXS36 _ _ (hXS31 _ _ hl1A)).1 (fun cy => wAt_3 cy _ (hXS36 _ _ (hXS31 _ _ hl1A)).2) rfl ⟨by decide, by decide, by decide +kernel⟩ rfl rfl (Nat.le_of_ble_eq_true rfl) (Nat.le_refl 0) (Nat.le_refl 0) dX6_judgeLetters_20 (fun v' S42 hp => ?_)
    obtain ⟨v41, rfl, h, hWS42, hXS42⟩ := hp
    refine wk_istore C (lv' := [some (.ref l0A), some (.ref l1A), some (.ref l2A), some (.int (0 : Int32)), some (.int v41), none, none]) dX6_judgeLetters_23 (by decide) rfl ?_
    refine wk_iconst C (v := 0) dX6_judgeLetters_25 (by decide) ?_
    refine wk_istore C (lv' := [some (.ref l0A), some (.ref l1A), some (.ref l2A), some (.int (0 : Int32)), some (.int v41), some (.int (0 : Int32)), none]) dX6_judgeLetters_26 (by decide) rfl ?_
    exact wk_forget (lv' := [some (.ref l0A), none, some (.ref l2A), some (.int (0 : Int32)), some (.int v41), some (.int (0 : Int32)), none]) (wkLs.le ⟨rfl, rfl, rfl, rfl, rfl, trivial⟩) (ih.1 _ _ _ _ _ _ hWS42 (wkExt.tr (wkExt.tr (wkExt.tr hE hXS31) hXS36) hXS42) (hXS42 _ _ (hXS36 _ _ (hXS31 _ _ hl0A))) (hXS42 _ _ (hXS36 _ _ (hXS31 _ _ hl2A))) h)
  · rw [if_pos c40] at h
    refine wk_iconst C (v := 1) dX6_judgeLetters_15 (by decide) ?_
    exact E _ _ _ _ _ _ (Nat.le_refl 0) (Nat.le_refl 0) dX6_judgeLetters_16 ⟨(1 : Int32), rfl, h, hWS36, (wkExt.tr (wkExt.tr hE hXS31) hXS36)⟩
