def wvX8_gather : List Cond := .code yX8_gather cX8_gather 5 (some .int) :: (([.fieldLink RX8 80 "Witnessworks$Numbers" "basisCount" "I", .methodLink RX8 114 yX8_takeFromOthers, .instanceMethod yX8_takeFromOthers, .selects RX8 yX8_takeFromOthers yX8_takeFromOthers, .initialized RX8, .fieldLink RX8 20 "Witnessworks$Numbers" "amounts" "[J", .methodLink RX8 108 Lib.MathLoose.abs_long.x, .static Lib.MathLoose.abs_long.x, .initialized "java/lang/Math", .code Lib.MathLoose.abs_long.x Lib.MathLoose.abs_long.code 2 (some .long)] : List Cond) ++ ((wsX80) ++ (wvX8_takeFromOthers)))
theorem huX8_gather_8 : ∀ w ∈ u_ws RX8 TX8 9, w ∈ wvX8_gather := fun w h => List.mem_cons_of_mem _ (List.mem_append_right _ (List.mem_append_left _ h))
theorem hbX8_gather_X8_takeFromOthers : ∀ w ∈ wvX8_takeFromOthers, w ∈ wvX8_gather := fun w h => List.mem_cons_of_mem _ (List.mem_append_right _ (List.mem_append_right _ h))
theorem gdX8_gather : ∀ w ∈ wvX8_gather, wkGd w := wkGdC rfl (wkGdA (wkGdL (by decide +kernel)) (wkGdA gdX8 gdX8_takeFromOthers))
def rX8_gather_b0 (F : Nat) (rec : Nat → Nat → Int32 → Int32 → Int32 → Int32 → wPS → (Int32 → wPS → Prop) → Prop) (l0A : Nat) (l1I : Int32) (S : wPS) (Φ : (Int32 → wPS → Prop)) : Prop :=
  if (1000 : Int32) ≤ l1I then (Φ (-1 : Int32) S) else (rec 1 l0A l1I (-1 : Int32) (0 : Int32) (0 : Int32) S Φ)
def rX8_gather_b1 (F : Nat) (rec : Nat → Nat → Int32 → Int32 → Int32 → Int32 → wPS → (Int32 → wPS → Prop) → Prop) (l0A : Nat) (l1I : Int32) (l2I : Int32) (l3I : Int32) (l4I : Int32) (S : wPS) (Φ : (Int32 → wPS → Prop)) : Prop :=
  if (gNumbers_basisCount S l0A) ≤ l4I then (if (1 : Int32) < l3I then (rX8_takeFromOthers F l0A l2I S fun v4 S5 => wkLt (l1I + (1 : Int32)) fun x9 => rec 0 l0A x9 0 0 0 S5 Φ) else (Φ l2I S)) else (¬ (l4I < 0 ∨ S.len (wkAd (gNumbers_amounts S l0A)) ≤ (l4I).toNatClampNeg) ∧ if (lg_cmp (S.rJ (wkAd (gNumbers_amounts S l0A)) (l4I).toNatClampNeg) (0 : Int64)) = 0 then (wkLt (l4I + (1 : Int32)) fun x12 => rec 1 l0A l1I l2I l3I x12 S Φ) else (wkLt (l3I + (1 : Int32)) fun x13 => if l2I < 0 then (wkLt (l4I + (1 : Int32)) fun x15 => rec 1 l0A l1I l4I x13 x15 S Φ) else (¬ (l4I < 0 ∨ S.len (wkAd (gNumbers_amounts S l0A)) ≤ (l4I).toNatClampNeg) ∧ ¬ (l2I < 0 ∨ S.len (wkAd (gNumbers_amounts S l0A)) ≤ (l2I).toNatClampNeg) ∧ if 0 ≤ (lg_cmp (if 0 < (S.rJ (wkAd (gNumbers_amounts S l0A)) (l4I).toNatClampNeg) then (S.rJ (wkAd (gNumbers_amounts S l0A)) (l4I).toNatClampNeg) else -(S.rJ (wkAd (gNumbers_amounts S l0A)) (l4I).toNatClampNeg)) (if 0 < (S.rJ (wkAd (gNumbers_amounts S l0A)) (l2I).toNatClampNeg) then (S.rJ (wkAd (gNumbers_amounts S l0A)) (l2I).toNatClampNeg) else -(S.rJ (wkAd (gNumbers_amounts S l0A)) (l2I).toNatClampNeg))) then (wkLt (l4I + (1 : Int32)) fun x19 => rec 1 l0A l1I l2I x13 x19 S Φ) else (wkLt (l4I + (1 : Int32)) fun x20 => rec 1 l0A l1I l4I x13 x20 S Φ))))
def rX8_gather_go (F : Nat) : Nat → Nat → Nat → Int32 → Int32 → Int32 → Int32 → wPS → (Int32 → wPS → Prop) → Prop
  | 0, _, _, _, _, _, _, _, _ => False
  | k' + 1, lab, l0A, l1I, l2I, l3I, l4I, S, Φ => if lab = 0 then rX8_gather_b0 F (rX8_gather_go F k') l0A l1I S Φ else if lab = 1 then rX8_gather_b1 F (rX8_gather_go F k') l0A l1I l2I l3I l4I S Φ else False
def rX8_gather_s (F : Nat) (rec : Nat → Nat → Int32 → Int32 → Int32 → Int32 → wPS → (Int32 → wPS → Prop) → Prop) (l0A : Nat) (S : wPS) (Φ : (Int32 → wPS → Prop)) : Prop :=
  rec 0 l0A (0 : Int32) 0 0 0 S Φ
def rX8_gather (F : Nat) (l0A : Nat) (S : wPS) (Φ : (Int32 → wPS → Prop)) : Prop := rX8_gather_s F (rX8_gather_go F F) l0A S Φ
set_option maxHeartbeats 4000000 in
set_option maxRecDepth 100000 in
theorem tX8_gather_go {l : Launch} {X : wkX} {d F : Nat} {S0 : wPS} {Φ : (Int32 → wPS → Prop)} (C : wkC X cX8_gather RX8 5 wvX8_gather) (hR : wkRm X d 0 0) (hd : 1 ≤ d) (E : wkEnd l X cX8_gather 5 (some .int) 0 0 (fun v' S'' => ∃ v : Int32, v' = some (.int v) ∧ Φ v S'' ∧ wkWF S'' ∧ wkExt S0 S'')) : ∀ k' : Nat, (∀ (l0A : Nat) (l1I : Int32) (S : wPS), wkWF S → wkExt S0 S → wkIs S l0A 8 → rX8_gather_go F k' 0 l0A l1I 0 0 0 S Φ → wkGo l X 5 0 0 2 S [some (.ref l0A), some (.int l1I), none, none, none] []) ∧ (∀ (l0A : Nat) (l1I : Int32) (l2I : Int32) (l3I : Int32) (l4I : Int32) (S : wPS), wkWF S → wkExt S0 S → wkIs S l0A 8 → rX8_gather_go F k' 1 l0A l1I l2I l3I l4I S Φ → wkGo l X 5 0 0 16 S [some (.ref l0A), some (.int l1I), some (.int l2I), some (.int l3I), some (.int l4I)] []) := by
  intro k'
  induction k' with
  | zero => exact ⟨fun l0A l1I S hW hE hl0A h => h.elim, fun l0A l1I l2I l3I l4I S hW hE hl0A h => h.elim⟩
  | succ k' ih =>
    refine ⟨?_, ?_⟩
    · intro l0A l1I S hW hE hl0A h
      have h : rX8_gather_b0 F (rX8_gather_go F k') l0A l1I S Φ := by
        rw [rX8_gather_go, if_pos (rfl : (0 : Nat) = 0)] at h
        exact h
      unfold rX8_gather_b0 at h
      refine wk_iload_n C dX8_gather_2 rfl rfl ?_
      refine wk_sipush C (v := 1000) dX8_gather_3 (by decide) ?_
      refine wk_icmp_ge C (tgt := 94) dX8_gather_6 (by decide) (fun c1 => ?_) (fun c1 => ?_)
      · rw [if_pos c1] at h
        refine wk_iconst C (v := (-1)) dX8_gather_94 (by decide) ?_
        exact E _ _ _ _ _ _ (Nat.le_refl 0) (Nat.le_refl 0) dX8_gather_95 ⟨(-1 : Int32), rfl, h, hW, hE⟩
      · rw [if_neg c1] at h
        refine wk_iconst C (v := (-1)) dX8_gather_9 (by decide) ?_
        refine wk_istore_n C (lv' := [some (.ref l0A), some (.int l1I), some (.int (-1 : Int32)), none, none]) dX8_gather_10 rfl (by decide) rfl ?_
        refine wk_iconst C (v := 0) dX8_gather_11 (by decide) ?_
        refine wk_istore_n C (lv' := [some (.ref l0A), some (.int l1I), some (.int (-1 : Int32)), some (.int (0 : Int32)), none]) dX8_gather_12 rfl (by decide) rfl ?_
        refine wk_iconst C (v := 0) dX8_gather_13 (by decide) ?_
        refine wk_istore C (lv' := [some (.ref l0A), some (.int l1I), some (.int (-1 : Int32)), some (.int (0 : Int32)), some (.int (0 : Int32))]) dX8_gather_14 (by decide) rfl ?_
        exact wk_forget (lv' := [some (.ref l0A), some (.int l1I), some (.int (-1 : Int32)), some (.int (0 : Int32)), some (.int (0 : Int32))]) (wkLs.le ⟨rfl, rfl, rfl, rfl, rfl, trivial⟩) (ih.2 _ _ _ _ _ _ hW hE hl0A h)
    · intro l0A l1I l2I l3I l4I S hW hE hl0A h
      have h : rX8_gather_b1 F (rX8_gather_go F k') l0A l1I l2I l3I l4I S Φ := by
        rw [rX8_gather_go, if_neg (show ¬ (1 : Nat) = 0 by decide), if_pos (rfl : (1 : Nat) = 1)] at h
        exact h
      unfold rX8_gather_b1 at h
      refine wk_iload C dX8_gather_16 rfl ?_
      refine wk_aload_n C dX8_gather_18 rfl rfl ?_
      refine wk_get C (v := .int (gNumbers_basisCount S l0A)) huX8_gather_8 hl0A.1 (fun cy => wAt_8 cy _ hl0A.2) rfl 3 (by decide) (List.mem_of_getElem? (i := 1) rfl) rfl rfl dX8_gather_19 ?_
      refine wk_icmp_ge C (tgt := 76) dX8_gather_22 (by decide) (fun c2 => ?_) (fun c2 => ?_)
      · rw [if_pos c2] at h
        refine wk_iload_n C dX8_gather_76 rfl rfl ?_
        refine wk_iconst C (v := 1) dX8_gather_77 (by decide) ?_
        refine wk_icmp_gt C (tgt := 83) dX8_gather_78 (by decide) (fun c3 => ?_) (fun c3 => ?_)
        · rw [if_pos c3] at h
          refine wk_aload_n C dX8_gather_83 rfl rfl ?_
          refine wk_iload_n C dX8_gather_84 rfl rfl ?_
          refine wk_callV C hR (As := [.int l2I]) (cnt := 1) (tX8_takeFromOthers (l := l) hW hl0A h) rfl (wkGoodV (List.mem_of_getElem? (i := 2) rfl) (List.mem_of_getElem? (i := 3) rfl) (List.mem_of_getElem? (i := 4) rfl) (List.mem_of_getElem? (i := 5) rfl) hbX8_gather_X8_takeFromOthers gdX8_takeFromOthers) (Nat.le_trans (by decide : 0 + 1 ≤ 1) hd) (by decide) hl0A.1 (fun cy => wAt_8 cy _ hl0A.2) rfl ⟨by decide, by decide, by decide +kernel⟩ rfl rfl (Nat.le_of_ble_eq_true rfl) (Nat.le_refl 0) (Nat.le_refl 0) dX8_gather_85 (fun v' S5 hp => ?_)
          obtain ⟨v4, rfl, h, hWS5, hXS5⟩ := hp
          obtain ⟨x9, ex9, h⟩ := wkLt_some h
          refine wk_iinc C (lv' := [some (.ref l0A), some (.int x9), some (.int l2I), some (.int l3I), some (.int l4I)]) dX8_gather_88 rfl (by rw [ex9]; rfl) (by decide) rfl ?_
          refine wk_goto C (tgt := 2) dX8_gather_91 (by decide) ?_
          exact wk_forget (lv' := [some (.ref l0A), some (.int x9), none, none, none]) (wkLs.le ⟨rfl, rfl, trivial⟩) (ih.1 _ _ _ hWS5 (wkExt.tr hE hXS5) (hXS5 _ _ hl0A) h)
        · rw [if_neg c3] at h
          refine wk_iload_n C dX8_gather_81 rfl rfl ?_
          exact E _ _ _ _ _ _ (Nat.le_refl 0) (Nat.le_refl 0) dX8_gather_82 ⟨l2I, rfl, h, hW, hE⟩
      · rw [if_neg c2] at h
        refine wk_aload_n C dX8_gather_25 rfl rfl ?_
        refine wk_get C huX8_gather_8 hl0A.1 (fun cy => wAt_8 cy _ hl0A.2) rfl 2 (by decide) (List.mem_of_getElem? (i := 6) rfl) rfl (congrArg some (congrArg va_rf (wf_Numbers_amounts hW hl0A).1)) dX8_gather_26 ?_
        refine wk_iload C dX8_gather_29 rfl ?_
        obtain ⟨i10, h⟩ := h
        refine wk_lald C (wf_Numbers_amounts hW hl0A).2.1 (wf_Numbers_amounts hW hl0A).2.2 i10 rfl dX8_gather_31 ?_
        refine wk_lconst C (v := 0) dX8_gather_32 (by decide) ?_
        refine wk_lcmp C dX8_gather_33 rfl ?_
        refine wk_if_eq C (tgt := 70) dX8_gather_34 (by decide) (fun c11 => ?_) (fun c11 => ?_)
        · rw [if_pos c11] at h
          obtain ⟨x12, ex12, h⟩ := wkLt_some h
          refine wk_iinc C (lv' := [some (.ref l0A), some (.int l1I), some (.int l2I), some (.int l3I), some (.int x12)]) dX8_gather_70 rfl (by rw [ex12]; rfl) (by decide) rfl ?_
          refine wk_goto C (tgt := 16) dX8_gather_73 (by decide) ?_
          exact wk_forget (lv' := [some (.ref l0A), some (.int l1I), some (.int l2I), some (.int l3I), some (.int x12)]) (wkLs.le ⟨rfl, rfl, rfl, rfl, rfl, trivial⟩) (ih.2 _ _ _ _ _ _ hW hE hl0A h)
        · rw [if_neg c11] at h
          obtain ⟨x13, ex13, h⟩ := wkLt_some h
          refine wk_iinc C (lv' := [some (.ref l0A), some (.int l1I), some (.int l2I), some (.int x13), some (.int l4I)]) dX8_gather_37 rfl (by rw [ex13]; rfl) (by decide) rfl ?_
          refine wk_iload_n C dX8_gather_40 rfl rfl ?_
          refine wk_if_lt C (tgt := 67) dX8_gather_41 (by decide) (fun c14 => ?_) (fun c14 => ?_)
          · rw [if_pos c14] at h
            refine wk_iload C dX8_gather_67 rfl ?_
            refine wk_istore_n C (lv' := [some (.ref l0A), some (.int l1I), some (.int l4I), some (.int x13), some (.int l4I)]) dX8_gather_69 rfl (by decide) rfl ?_
            obtain ⟨x15, ex15, h⟩ := wkLt_some h
            refine wk_iinc C (lv' := [some (.ref l0A), some (.int l1I), some (.int l4I), some (.int x13), some (.int x15)]) dX8_gather_70 rfl (by rw [ex15]; rfl) (by decide) rfl ?_
            refine wk_goto C (tgt := 16) dX8_gather_73 (by decide) ?_
            exact wk_forget (lv' := [some (.ref l0A), some (.int l1I), some (.int l4I), some (.int x13), some (.int x15)]) (wkLs.le ⟨rfl, rfl, rfl, rfl, rfl, trivial⟩) (ih.2 _ _ _ _ _ _ hW hE hl0A h)
          · rw [if_neg c14] at h
            refine wk_aload_n C dX8_gather_44 rfl rfl ?_
            refine wk_get C huX8_gather_8 hl0A.1 (fun cy => wAt_8 cy _ hl0A.2) rfl 2 (by decide) (List.mem_of_getElem? (i := 6) rfl) rfl (congrArg some (congrArg va_rf (wf_Numbers_amounts hW hl0A).1)) dX8_gather_45 ?_
            refine wk_iload C dX8_gather_48 rfl ?_
            obtain ⟨i16, h⟩ := h
            refine wk_lald C (wf_Numbers_amounts hW hl0A).2.1 (wf_Numbers_amounts hW hl0A).2.2 i16 rfl dX8_gather_50 ?_
            refine wk_mabs_long C hR (List.mem_of_getElem? (i := 7) rfl) (List.mem_of_getElem? (i := 8) rfl) (List.mem_of_getElem? (i := 9) rfl) (List.mem_of_getElem? (i := 10) rfl) (Nat.le_trans (by decide) hd) (Nat.le_refl 0) (Nat.le_refl 0) (Nat.le_of_ble_eq_true rfl) rfl dX8_gather_51 ?_
            refine wk_aload_n C dX8_gather_54 rfl rfl ?_
            refine wk_get C huX8_gather_8 hl0A.1 (fun cy => wAt_8 cy _ hl0A.2) rfl 2 (by decide) (List.mem_of_getElem? (i := 6) rfl) rfl (congrArg some (congrArg va_rf (wf_Numbers_amounts hW hl0A).1)) dX8_gather_55 ?_
            refine wk_iload_n C dX8_gather_58 rfl rfl ?_
            obtain ⟨i17, h⟩ := h
            refine wk_lald C (wf_Numbers_amounts hW hl0A).2.1 (wf_Numbers_amounts hW hl0A).2.2 i17 rfl dX8_gather_59 ?_
            refine wk_mabs_long C hR (List.mem_of_getElem? (i := 7) rfl) (List.mem_of_getElem? (i := 8) rfl) (List.mem_of_getElem? (i := 9) rfl) (List.mem_of_getElem? (i := 10) rfl) (Nat.le_trans (by decide) hd) (Nat.le_refl 0) (Nat.le_refl 0) (Nat.le_of_ble_eq_true rfl) rfl dX8_gather_60 ?_
            refine wk_lcmp C dX8_gather_63 rfl ?_
            refine wk_if_ge C (tgt := 70) dX8_gather_64 (by decide) (fun c18 => ?_) (fun c18 => ?_)
            · rw [if_pos c18] at h
              obtain ⟨x19, ex19, h⟩ := wkLt_some h
              refine wk_iinc C (lv' := [some (.ref l0A), some (.int l1I), some (.int l2I), some (.int x13), some (.int x19)]) dX8_gather_70 rfl (by rw [ex19]; rfl) (by decide) rfl ?_
              refine wk_goto C (tgt := 16) dX8_gather_73 (by decide) ?_
              exact wk_forget (lv' := [some (.ref l0A), some (.int l1I), some (.int l2I), some (.int x13), some (.int x19)]) (wkLs.le ⟨rfl, rfl, rfl, rfl, rfl, trivial⟩) (ih.2 _ _ _ _ _ _ hW hE hl0A h)
            · rw [if_neg c18] at h
              refine wk_iload C dX8_gather_67 rfl ?_
              refine wk_istore_n C (lv' := [some (.ref l0A), some (.int l1I), some (.int l4I), some (.int x13), some (.int l4I)]) dX8_gather_69 rfl (by decide) rfl ?_
              obtain ⟨x20, ex20, h⟩ := wkLt_some h
              refine wk_iinc C (lv' := [some (.ref l0A), some (.int l1I), some (.int l4I), some (.int x13), some (.int x20)]) dX8_gather_70 rfl (by rw [ex20]; rfl) (by decide) rfl ?_
              refine wk_goto C (tgt := 16) dX8_gather_73 (by decide) ?_
              exact wk_forget (lv' := [some (.ref l0A), some (.int l1I), some (.int l4I), some (.int x13), some (.int x20)]) (wkLs.le ⟨rfl, rfl, rfl, rfl, rfl, trivial⟩) (ih.2 _ _ _ _ _ _ hW hE hl0A h)
set_option maxHeartbeats 4000000 in
set_option maxRecDepth 100000 in
theorem tX8_gather {l : Launch} {g : wkG} {F : Nat}  {S : wPS} {l0A : Nat} {Φ : (Int32 → wPS → Prop)} (hW : wkWF S) (hl0A : wkIs S l0A 8) (h : rX8_gather F l0A S Φ) : wkMet l g yX8_gather wvX8_gather 1 0 0 [.ref l0A] S (fun v' S'' => ∃ v : Int32, v' = some (.int v) ∧ Φ v S'' ∧ wkWF S'' ∧ wkExt S S'') := by
  refine wkMet_of (ret := (some .int)) (by decide) rfl (Nat.le_of_ble_eq_true rfl) (fun X hg C hR E => ?_)
  subst hg
  have hE : wkExt S S := wkExt.rf
  have hd : 1 ≤ 1 := Nat.le_refl _
  show wkGo l X 5 0 0 0 S [some (.ref l0A), none, none, none, none] []
  have ih := tX8_gather_go (F := F) C hR hd E F
  have h : rX8_gather_s F (rX8_gather_go F F) l0A S Φ := h
  unfold rX8_gather_s at h
  refine wk_iconst C (v := 0) dX8_gather_0 (by decide) ?_
  refine wk_istore_n C (lv' := [some (.ref l0A), some (.int (0 : Int32)), none, none, none]) dX8_gather_1 rfl (by decide) rfl ?_
  exact wk_forget (lv' := [some (.ref l0A), some (.int (0 : Int32)), none, none, none]) (wkLs.le ⟨rfl, rfl, trivial⟩) (ih.1 _ _ _ hW hE hl0A h)
def wvX8_takeLeastAmount : List Cond := .code yX8_takeLeastAmount cX8_takeLeastAmount 7 none :: (([.fieldLink RX8 80 "Witnessworks$Numbers" "basisCount" "I", .methodLink RX8 97 yX8_gather, .instanceMethod yX8_gather, .selects RX8 yX8_gather yX8_gather, .initialized RX8, .fieldLink RX8 20 "Witnessworks$Numbers" "amounts" "[J", .methodLink RX8 108 Lib.MathLoose.abs_long.x, .static Lib.MathLoose.abs_long.x, .initialized "java/lang/Math", .code Lib.MathLoose.abs_long.x Lib.MathLoose.abs_long.code 2 (some .long), .fieldLink RX8 11 "Witnessworks$Numbers" "point" "[J", .methodLink RX8 117 yJ9_floorMod_f86c9, .static yJ9_floorMod_f86c9, .initialized RJ9, .methodLink RX8 101 yX8_movePoint, .instanceMethod yX8_movePoint, .selects RX8 yX8_movePoint yX8_movePoint, .methodLink RX8 105 yX8_removeBasis, .instanceMethod yX8_removeBasis, .selects RX8 yX8_removeBasis yX8_removeBasis, .fieldLink RX8 17 "Witnessworks$Numbers" "basis" "[[J"] : List Cond) ++ ((wsX80) ++ (wvX8_gather ++ (wvJ9_floorMod_f86c9 ++ (wvX8_movePoint ++ (wvX8_removeBasis))))))
theorem huX8_takeLeastAmount_8 : ∀ w ∈ u_ws RX8 TX8 9, w ∈ wvX8_takeLeastAmount := fun w h => List.mem_cons_of_mem _ (List.mem_append_right _ (List.mem_append_left _ h))
theorem hbX8_takeLeastAmount_X8_gather : ∀ w ∈ wvX8_gather, w ∈ wvX8_takeLeastAmount := fun w h => List.mem_cons_of_mem _ (List.mem_append_right _ (List.mem_append_right _ (List.mem_append_left _ h)))
theorem hbX8_takeLeastAmount_J9_floorMod_f86c9 : ∀ w ∈ wvJ9_floorMod_f86c9, w ∈ wvX8_takeLeastAmount := fun w h => List.mem_cons_of_mem _ (List.mem_append_right _ (List.mem_append_right _ (List.mem_append_right _ (List.mem_append_left _ h))))
theorem hbX8_takeLeastAmount_X8_movePoint : ∀ w ∈ wvX8_movePoint, w ∈ wvX8_takeLeastAmount := fun w h => List.mem_cons_of_mem _ (List.mem_append_right _ (List.mem_append_right _ (List.mem_append_right _ (List.mem_append_right _ (List.mem_append_left _ h)))))
theorem hbX8_takeLeastAmount_X8_removeBasis : ∀ w ∈ wvX8_removeBasis, w ∈ wvX8_takeLeastAmount := fun w h => List.mem_cons_of_mem _ (List.mem_append_right _ (List.mem_append_right _ (List.mem_append_right _ (List.mem_append_right _ (List.mem_append_right _ h)))))
theorem gdX8_takeLeastAmount : ∀ w ∈ wvX8_takeLeastAmount, wkGd w := wkGdC rfl (wkGdA (wkGdL (by decide +kernel)) (wkGdA gdX8 (wkGdA gdX8_gather (wkGdA gdJ9_floorMod_f86c9 (wkGdA gdX8_movePoint gdX8_removeBasis)))))
def rX8_takeLeastAmount_b0 (F : Nat) (rec : Nat → Nat → Int32 → Int32 → wPS → (Unit → wPS → Prop) → Prop) (l0A : Nat) (l1I : Int32) (l2I : Int32) (S : wPS) (Φ : (Unit → wPS → Prop)) : Prop :=
  if (gNumbers_basisCount S l0A) ≤ l2I then (rX8_gather F l0A S fun v2 S3 => if v2 < 0 then (Φ () S3) else (¬ (v2 < 0 ∨ S3.len (wkAd (gNumbers_amounts S3 l0A)) ≤ (v2).toNatClampNeg) ∧ if (lg_cmp (S3.rJ (wkAd (gNumbers_amounts S3 l0A)) (v2).toNatClampNeg) (0 : Int64)) = 0 then (Φ () S3) else (¬ (v2 < 0 ∨ S3.len (wkAd (gNumbers_amounts S3 l0A)) ≤ (v2).toNatClampNeg) ∧ wkLt ((if 0 < (S3.rJ (wkAd (gNumbers_amounts S3 l0A)) (v2).toNatClampNeg) then (S3.rJ (wkAd (gNumbers_amounts S3 l0A)) (v2).toNatClampNeg) else -(S3.rJ (wkAd (gNumbers_amounts S3 l0A)) (v2).toNatClampNeg))) fun x11 => ¬ (l1I < 0 ∨ S3.len (wkAd (gNumbers_point S3 l0A)) ≤ (l1I).toNatClampNeg) ∧ rJ9_floorMod_f86c9 F (S3.rJ (wkAd (gNumbers_point S3 l0A)) (l1I).toNatClampNeg) x11 S3 fun v13 S14 => if (lg_cmp v13 (x11 - v13)) ≤ 0 then (¬ (l1I < 0 ∨ S14.len (wkAd (gNumbers_point S14 l0A)) ≤ (l1I).toNatClampNeg) ∧ ¬ (v2 < 0 ∨ S14.len (wkAd (gNumbers_amounts S14 l0A)) ≤ (v2).toNatClampNeg) ∧ ¬ (S14.rJ (wkAd (gNumbers_amounts S14 l0A)) (v2).toNatClampNeg) = 0 ∧ rX8_movePoint F l0A v2 ((v13 - (S14.rJ (wkAd (gNumbers_point S14 l0A)) (l1I).toNatClampNeg)) / (S14.rJ (wkAd (gNumbers_amounts S14 l0A)) (v2).toNatClampNeg)) S14 fun v22 S23 => rX8_removeBasis F l0A v2 S23 fun v27 S28 => Φ () S28) else (wkLt ((v13 - x11)) fun x32 => ¬ (l1I < 0 ∨ S14.len (wkAd (gNumbers_point S14 l0A)) ≤ (l1I).toNatClampNeg) ∧ ¬ (v2 < 0 ∨ S14.len (wkAd (gNumbers_amounts S14 l0A)) ≤ (v2).toNatClampNeg) ∧ ¬ (S14.rJ (wkAd (gNumbers_amounts S14 l0A)) (v2).toNatClampNeg) = 0 ∧ rX8_movePoint F l0A v2 ((x32 - (S14.rJ (wkAd (gNumbers_point S14 l0A)) (l1I).toNatClampNeg)) / (S14.rJ (wkAd (gNumbers_amounts S14 l0A)) (v2).toNatClampNeg)) S14 fun v36 S37 => rX8_removeBasis F l0A v2 S37 fun v41 S42 => Φ () S42)))) else (¬ (l2I < 0 ∨ S.len (wkAd (gNumbers_basis S l0A)) ≤ (l2I).toNatClampNeg) ∧ ¬ (l1I < 0 ∨ S.len (wkAd (S.rA (wkAd (gNumbers_basis S l0A)) (l2I).toNatClampNeg)) ≤ (l1I).toNatClampNeg) ∧ ¬ (l2I < 0 ∨ S.len (wkAd (gNumbers_amounts S l0A)) ≤ (l2I).toNatClampNeg) ∧ wkLt (wuJ S (wkAd (gNumbers_amounts S l0A)) l2I (S.rJ (wkAd (S.rA (wkAd (gNumbers_basis S l0A)) (l2I).toNatClampNeg)) (l1I).toNatClampNeg)) fun S50 => wkLt (l2I + (1 : Int32)) fun x51 => rec 0 l0A l1I x51 S50 Φ)
def rX8_takeLeastAmount_go (F : Nat) : Nat → Nat → Nat → Int32 → Int32 → wPS → (Unit → wPS → Prop) → Prop
  | 0, _, _, _, _, _, _ => False
  | k' + 1, lab, l0A, l1I, l2I, S, Φ => if lab = 0 then rX8_takeLeastAmount_b0 F (rX8_takeLeastAmount_go F k') l0A l1I l2I S Φ else False
def rX8_takeLeastAmount_s (F : Nat) (rec : Nat → Nat → Int32 → Int32 → wPS → (Unit → wPS → Prop) → Prop) (l0A : Nat) (l1I : Int32) (S : wPS) (Φ : (Unit → wPS → Prop)) : Prop :=
  rec 0 l0A l1I (0 : Int32) S Φ
def rX8_takeLeastAmount (F : Nat) (l0A : Nat) (l1I : Int32) (S : wPS) (Φ : (Unit → wPS → Prop)) : Prop := rX8_takeLeastAmount_s F (rX8_takeLeastAmount_go F F) l0A l1I S Φ
set_option maxHeartbeats 4000000 in
set_option maxRecDepth 100000 in
theorem tX8_takeLeastAmount_go {l : Launch} {X : wkX} {d F : Nat} {S0 : wPS} {Φ : (Unit → wPS → Prop)} (C : wkC X cX8_takeLeastAmount RX8 7 wvX8_takeLeastAmount) (hR : wkRm X d 0 0) (hd : 2 ≤ d) (E : wkEnd l X cX8_takeLeastAmount 7 none 0 0 (fun v' S'' => ∃ v : Unit, v' = none ∧ Φ v S'' ∧ wkWF S'' ∧ wkExt S0 S'')) : ∀ k' : Nat, (∀ (l0A : Nat) (l1I : Int32) (l2I : Int32) (S : wPS), wkWF S → wkExt S0 S → wkIs S l0A 8 → rX8_takeLeastAmount_go F k' 0 l0A l1I l2I S Φ → wkGo l X 7 0 0 2 S [some (.ref l0A), some (.int l1I), some (.int l2I), none, none, none, none] []) := by
  intro k'
  induction k' with
  | zero => exact fun l0A l1I l2I S hW hE hl0A h => h.elim
  | succ k' ih =>
    · intro l0A l1I l2I S hW hE hl0A h
      have h : rX8_takeLeastAmount_b0 F (rX8_takeLeastAmount_go F k') l0A l1I l2I S Φ := by
        rw [rX8_takeLeastAmount_go, if_pos (rfl : (0 : Nat) = 0)] at h
        exact h
      unfold rX8_takeLeastAmount_b0 at h
      refine wk_iload_n C dX8_takeLeastAmount_2 rfl rfl ?_
      refine wk_aload_n C dX8_takeLeastAmount_3 rfl rfl ?_
      refine wk_get C (v := .int (gNumbers_basisCount S l0A)) huX8_takeLeastAmount_8 hl0A.1 (fun cy => wAt_8 cy _ hl0A.2) rfl 3 (by decide) (List.mem_of_getElem? (i := 1) rfl) rfl rfl dX8_takeLeastAmount_4 ?_
      refine wk_icmp_ge C (tgt := 30) dX8_takeLeastAmount_7 (by decide) (fun c1 => ?_) (fun c1 => ?_)
      · rw [if_pos c1] at h
        refine wk_aload_n C dX8_takeLeastAmount_30 rfl rfl ?_
        refine wk_callV C hR (As := []) (cnt := 0) (tX8_gather (l := l) hW hl0A h) rfl (wkGoodV (List.mem_of_getElem? (i := 2) rfl) (List.mem_of_getElem? (i := 3) rfl) (List.mem_of_getElem? (i := 4) rfl) (List.mem_of_getElem? (i := 5) rfl) hbX8_takeLeastAmount_X8_gather gdX8_gather) (Nat.le_trans (by decide : 1 + 1 ≤ 2) hd) (by decide) hl0A.1 (fun cy => wAt_8 cy _ hl0A.2) rfl ⟨by decide, by decide, by decide +kernel⟩ rfl rfl (Nat.le_of_ble_eq_true rfl) (Nat.le_refl 0) (Nat.le_refl 0) dX8_takeLeastAmount_31 (fun v' S3 hp => ?_)
        obtain ⟨v2, rfl, h, hWS3, hXS3⟩ := hp
        refine wk_istore_n C (lv' := [some (.ref l0A), some (.int l1I), some (.int v2), none, none, none, none]) dX8_takeLeastAmount_34 rfl (by decide) rfl ?_
        refine wk_iload_n C dX8_takeLeastAmount_35 rfl rfl ?_
        refine wk_if_lt C (tgt := 50) dX8_takeLeastAmount_36 (by decide) (fun c7 => ?_) (fun c7 => ?_)
        · rw [if_pos c7] at h
          exact E _ _ _ _ _ (Nat.le_refl 0) (Nat.le_refl 0) dX8_takeLeastAmount_50 ⟨(), rfl, h, hWS3, (wkExt.tr hE hXS3)⟩
        · rw [if_neg c7] at h
          refine wk_aload_n C dX8_takeLeastAmount_39 rfl rfl ?_
          refine wk_get C huX8_takeLeastAmount_8 (hXS3 _ _ hl0A).1 (fun cy => wAt_8 cy _ (hXS3 _ _ hl0A).2) rfl 2 (by decide) (List.mem_of_getElem? (i := 6) rfl) rfl (congrArg some (congrArg va_rf (wf_Numbers_amounts hWS3 (hXS3 _ _ hl0A)).1)) dX8_takeLeastAmount_40 ?_
          refine wk_iload_n C dX8_takeLeastAmount_43 rfl rfl ?_
          obtain ⟨i8, h⟩ := h
          refine wk_lald C (wf_Numbers_amounts hWS3 (hXS3 _ _ hl0A)).2.1 (wf_Numbers_amounts hWS3 (hXS3 _ _ hl0A)).2.2 i8 rfl dX8_takeLeastAmount_44 ?_
          refine wk_lconst C (v := 0) dX8_takeLeastAmount_45 (by decide) ?_
          refine wk_lcmp C dX8_takeLeastAmount_46 rfl ?_
          refine wk_if_ne C (tgt := 51) dX8_takeLeastAmount_47 (by decide) (fun c9 => ?_) (fun c9 => ?_)
          · rw [if_neg c9] at h
            refine wk_aload_n C dX8_takeLeastAmount_51 rfl rfl ?_
            refine wk_get C huX8_takeLeastAmount_8 (hXS3 _ _ hl0A).1 (fun cy => wAt_8 cy _ (hXS3 _ _ hl0A).2) rfl 2 (by decide) (List.mem_of_getElem? (i := 6) rfl) rfl (congrArg some (congrArg va_rf (wf_Numbers_amounts hWS3 (hXS3 _ _ hl0A)).1)) dX8_takeLeastAmount_52 ?_
            refine wk_iload_n C dX8_takeLeastAmount_55 rfl rfl ?_
            obtain ⟨i10, h⟩ := h
            refine wk_lald C (wf_Numbers_amounts hWS3 (hXS3 _ _ hl0A)).2.1 (wf_Numbers_amounts hWS3 (hXS3 _ _ hl0A)).2.2 i10 rfl dX8_takeLeastAmount_56 ?_
            refine wk_mabs_long C hR (List.mem_of_getElem? (i := 7) rfl) (List.mem_of_getElem? (i := 8) rfl) (List.mem_of_getElem? (i := 9) rfl) (List.mem_of_getElem? (i := 10) rfl) (Nat.le_trans (by decide) hd) (Nat.le_refl 0) (Nat.le_refl 0) (Nat.le_of_ble_eq_true rfl) rfl dX8_takeLeastAmount_57 ?_
            obtain ⟨x11, ex11, h⟩ := wkLt_some h
            refine wk_topl ex11 ?_
            refine wk_lstore_n C (lv' := [some (.ref l0A), some (.int l1I), some (.int v2), some (.long x11), none, none, none]) dX8_takeLeastAmount_60 rfl (by decide) rfl ?_
            refine wk_aload_n C dX8_takeLeastAmount_61 rfl rfl ?_
            refine wk_get C huX8_takeLeastAmount_8 (hXS3 _ _ hl0A).1 (fun cy => wAt_8 cy _ (hXS3 _ _ hl0A).2) rfl 0 (by decide) (List.mem_of_getElem? (i := 11) rfl) rfl (congrArg some (congrArg va_rf (wf_Numbers_point hWS3 (hXS3 _ _ hl0A)).1)) dX8_takeLeastAmount_62 ?_
            refine wk_iload_n C dX8_takeLeastAmount_65 rfl rfl ?_
            obtain ⟨i12, h⟩ := h
            refine wk_lald C (wf_Numbers_point hWS3 (hXS3 _ _ hl0A)).2.1 (wf_Numbers_point hWS3 (hXS3 _ _ hl0A)).2.2 i12 rfl dX8_takeLeastAmount_66 ?_
            refine wk_lload_n C dX8_takeLeastAmount_67 rfl rfl ?_
            refine wk_callW C hR (As := [.long (S3.rJ (wkAd (gNumbers_point S3 l0A)) (l1I).toNatClampNeg), .long x11]) (cnt := 2) (tJ9_floorMod_f86c9 (l := l) hWS3  h) rfl (wkGoodW (List.mem_of_getElem? (i := 12) rfl) (List.mem_of_getElem? (i := 13) rfl) (List.mem_of_getElem? (i := 14) rfl) hbX8_takeLeastAmount_J9_floorMod_f86c9 gdJ9_floorMod_f86c9) (Nat.le_trans (by decide : 0 + 1 ≤ 2) hd) (by decide) ⟨by decide, by decide, by decide +kernel⟩ rfl rfl (Nat.le_of_ble_eq_true rfl) (Nat.le_refl 0) (Nat.le_refl 0) dX8_takeLeastAmount_68 (fun v' S14 hp => ?_)
            obtain ⟨v13, rfl, h, hWS14, hXS14⟩ := hp
            refine wk_lstore C (lv' := [some (.ref l0A), some (.int l1I), some (.int v2), some (.long x11), none, some (.long v13), none]) dX8_takeLeastAmount_71 (by decide) rfl ?_
            refine wk_lload C dX8_takeLeastAmount_73 rfl ?_
            refine wk_lload_n C dX8_takeLeastAmount_75 rfl rfl ?_
            refine wk_lload C dX8_takeLeastAmount_76 rfl ?_
            refine wk_lsub C dX8_takeLeastAmount_78 rfl ?_
            refine wk_lcmp C dX8_takeLeastAmount_79 rfl ?_
            refine wk_if_le C (tgt := 89) dX8_takeLeastAmount_80 (by decide) (fun c18 => ?_) (fun c18 => ?_)
            · rw [if_pos c18] at h
              refine wk_aload_n C dX8_takeLeastAmount_89 rfl rfl ?_
              refine wk_iload_n C dX8_takeLeastAmount_90 rfl rfl ?_
              refine wk_lload C dX8_takeLeastAmount_91 rfl ?_
              refine wk_aload_n C dX8_takeLeastAmount_93 rfl rfl ?_
              refine wk_get C huX8_takeLeastAmount_8 (hXS14 _ _ (hXS3 _ _ hl0A)).1 (fun cy => wAt_8 cy _ (hXS14 _ _ (hXS3 _ _ hl0A)).2) rfl 0 (by decide) (List.mem_of_getElem? (i := 11) rfl) rfl (congrArg some (congrArg va_rf (wf_Numbers_point hWS14 (hXS14 _ _ (hXS3 _ _ hl0A))).1)) dX8_takeLeastAmount_94 ?_
              refine wk_iload_n C dX8_takeLeastAmount_97 rfl rfl ?_
              obtain ⟨i19, h⟩ := h
              refine wk_lald C (wf_Numbers_point hWS14 (hXS14 _ _ (hXS3 _ _ hl0A))).2.1 (wf_Numbers_point hWS14 (hXS14 _ _ (hXS3 _ _ hl0A))).2.2 i19 rfl dX8_takeLeastAmount_98 ?_
              refine wk_lsub C dX8_takeLeastAmount_99 rfl ?_
              refine wk_aload_n C dX8_takeLeastAmount_100 rfl rfl ?_
              refine wk_get C huX8_takeLeastAmount_8 (hXS14 _ _ (hXS3 _ _ hl0A)).1 (fun cy => wAt_8 cy _ (hXS14 _ _ (hXS3 _ _ hl0A)).2) rfl 2 (by decide) (List.mem_of_getElem? (i := 6) rfl) rfl (congrArg some (congrArg va_rf (wf_Numbers_amounts hWS14 (hXS14 _ _ (hXS3 _ _ hl0A))).1)) dX8_takeLeastAmount_101 ?_
              refine wk_iload_n C dX8_takeLeastAmount_104 rfl rfl ?_
              obtain ⟨i20, h⟩ := h
              refine wk_lald C (wf_Numbers_amounts hWS14 (hXS14 _ _ (hXS3 _ _ hl0A))).2.1 (wf_Numbers_amounts hWS14 (hXS14 _ _ (hXS3 _ _ hl0A))).2.2 i20 rfl dX8_takeLeastAmount_105 ?_
              obtain ⟨z21, h⟩ := h
              refine wk_ldiv C dX8_takeLeastAmount_106 z21 rfl ?_
              refine wk_callV C hR (As := [.int v2, .long ((v13 - (S14.rJ (wkAd (gNumbers_point S14 l0A)) (l1I).toNatClampNeg)) / (S14.rJ (wkAd (gNumbers_amounts S14 l0A)) (v2).toNatClampNeg))]) (cnt := 2) (tX8_movePoint (l := l) hWS14 (hXS14 _ _ (hXS3 _ _ hl0A)) h) rfl (wkGoodV (List.mem_of_getElem? (i := 15) rfl) (List.mem_of_getElem? (i := 16) rfl) (List.mem_of_getElem? (i := 17) rfl) (List.mem_of_getElem? (i := 5) rfl) hbX8_takeLeastAmount_X8_movePoint gdX8_movePoint) (Nat.le_trans (by decide : 0 + 1 ≤ 2) hd) (by decide) (hXS14 _ _ (hXS3 _ _ hl0A)).1 (fun cy => wAt_8 cy _ (hXS14 _ _ (hXS3 _ _ hl0A)).2) rfl ⟨by decide, by decide, by decide +kernel⟩ rfl rfl (Nat.le_of_ble_eq_true rfl) (Nat.le_refl 0) (Nat.le_refl 0) dX8_takeLeastAmount_107 (fun v' S23 hp => ?_)
              obtain ⟨v22, rfl, h, hWS23, hXS23⟩ := hp
              refine wk_aload_n C dX8_takeLeastAmount_110 rfl rfl ?_
              refine wk_iload_n C dX8_takeLeastAmount_111 rfl rfl ?_
              refine wk_callV C hR (As := [.int v2]) (cnt := 1) (tX8_removeBasis (l := l) hWS23 (hXS23 _ _ (hXS14 _ _ (hXS3 _ _ hl0A))) h) rfl (wkGoodV (List.mem_of_getElem? (i := 18) rfl) (List.mem_of_getElem? (i := 19) rfl) (List.mem_of_getElem? (i := 20) rfl) (List.mem_of_getElem? (i := 5) rfl) hbX8_takeLeastAmount_X8_removeBasis gdX8_removeBasis) (Nat.le_trans (by decide : 0 + 1 ≤ 2) hd) (by decide) (hXS23 _ _ (hXS14 _ _ (hXS3 _ _ hl0A))).1 (fun cy => wAt_8 cy _ (hXS23 _ _ (hXS14 _ _ (hXS3 _ _ hl0A))).2) rfl ⟨by decide, by decide, by decide +kernel⟩ rfl rfl (Nat.le_of_ble_eq_true rfl) (Nat.le_refl 0) (Nat.le_refl 0) dX8_takeLeastAmount_112 (fun v' S28 hp => ?_)
              obtain ⟨v27, rfl, h, hWS28, hXS28⟩ := hp
              exact E _ _ _ _ _ (Nat.le_refl 0) (Nat.le_refl 0) dX8_takeLeastAmount_115 ⟨(), rfl, h, hWS28, (wkExt.tr (wkExt.tr (wkExt.tr (wkExt.tr hE hXS3) hXS14) hXS23) hXS28)⟩
            · rw [if_neg c18] at h
              refine wk_lload C dX8_takeLeastAmount_83 rfl ?_
              refine wk_lload_n C dX8_takeLeastAmount_85 rfl rfl ?_
              refine wk_lsub C dX8_takeLeastAmount_86 rfl ?_
              obtain ⟨x32, ex32, h⟩ := wkLt_some h
              refine wk_topl ex32 ?_
              refine wk_lstore C (lv' := [some (.ref l0A), some (.int l1I), some (.int v2), some (.long x11), none, some (.long x32), none]) dX8_takeLeastAmount_87 (by decide) rfl ?_
              refine wk_aload_n C dX8_takeLeastAmount_89 rfl rfl ?_
              refine wk_iload_n C dX8_takeLeastAmount_90 rfl rfl ?_
              refine wk_lload C dX8_takeLeastAmount_91 rfl ?_
              refine wk_aload_n C dX8_takeLeastAmount_93 rfl rfl ?_
              refine wk_get C huX8_takeLeastAmount_8 (hXS14 _ _ (hXS3 _ _ hl0A)).1 (fun cy => wAt_8 cy _ (hXS14 _ _ (hXS3 _ _ hl0A)).2) rfl 0 (by decide) (List.mem_of_getElem? (i := 11) rfl) rfl (congrArg some (congrArg va_rf (wf_Numbers_point hWS14 (hXS14 _ _ (hXS3 _ _ hl0A))).1)) dX8_takeLeastAmount_94 ?_
              refine wk_iload_n C dX8_takeLeastAmount_97 rfl rfl ?_
              obtain ⟨i33, h⟩ := h
              refine wk_lald C (wf_Numbers_point hWS14 (hXS14 _ _ (hXS3 _ _ hl0A))).2.1 (wf_Numbers_point hWS14 (hXS14 _ _ (hXS3 _ _ hl0A))).2.2 i33 rfl dX8_takeLeastAmount_98 ?_
              refine wk_lsub C dX8_takeLeastAmount_99 rfl ?_
              refine wk_aload_n C dX8_takeLeastAmount_100 rfl rfl ?_
              refine wk_get C huX8_takeLeastAmount_8 (hXS14 _ _ (hXS3 _ _ hl0A)).1 (fun cy => wAt_8 cy _ (hXS14 _ _ (hXS3 _ _ hl0A)).2) rfl 2 (by decide) (List.mem_of_getElem? (i := 6) rfl) rfl (congrArg some (congrArg va_rf (wf_Numbers_amounts hWS14 (hXS14 _ _ (hXS3 _ _ hl0A))).1)) dX8_takeLeastAmount_101 ?_
              refine wk_iload_n C dX8_takeLeastAmount_104 rfl rfl ?_
              obtain ⟨i34, h⟩ := h
              refine wk_lald C (wf_Numbers_amounts hWS14 (hXS14 _ _ (hXS3 _ _ hl0A))).2.1 (wf_Numbers_amounts hWS14 (hXS14 _ _ (hXS3 _ _ hl0A))).2.2 i34 rfl dX8_takeLeastAmount_105 ?_
              obtain ⟨z35, h⟩ := h
              refine wk_ldiv C dX8_takeLeastAmount_106 z35 rfl ?_
              refine wk_callV C hR (As := [.int v2, .long ((x32 - (S14.rJ (wkAd (gNumbers_point S14 l0A)) (l1I).toNatClampNeg)) / (S14.rJ (wkAd (gNumbers_amounts S14 l0A)) (v2).toNatClampNeg))]) (cnt := 2) (tX8_movePoint (l := l) hWS14 (hXS14 _ _ (hXS3 _ _ hl0A)) h) rfl (wkGoodV (List.mem_of_getElem? (i := 15) rfl) (List.mem_of_getElem? (i := 16) rfl) (List.mem_of_getElem? (i := 17) rfl) (List.mem_of_getElem? (i := 5) rfl) hbX8_takeLeastAmount_X8_movePoint gdX8_movePoint) (Nat.le_trans (by decide : 0 + 1 ≤ 2) hd) (by decide) (hXS14 _ _ (hXS3 _ _ hl0A)).1 (fun cy => wAt_8 cy _ (hXS14 _ _ (hXS3 _ _ hl0A)).2) rfl ⟨by decide, by decide, by decide +kernel⟩ rfl rfl (Nat.le_of_ble_eq_true rfl) (Nat.le_refl 0) (Nat.le_refl 0) dX8_takeLeastAmount_107 (fun v' S37 hp => ?_)
              obtain ⟨v36, rfl, h, hWS37, hXS37⟩ := hp
              refine wk_aload_n C dX8_takeLeastAmount_110 rfl rfl ?_
              refine wk_iload_n C dX8_takeLeastAmount_111 rfl rfl ?_
              refine wk_callV C hR (As := [.int v2]) (cnt := 1) (tX8_removeBasis (l := l) hWS37 (hXS37 _ _ (hXS14 _ _ (hXS3 _ _ hl0A))) h) rfl (wkGoodV (List.mem_of_getElem? (i := 18) rfl) (List.mem_of_getElem? (i := 19) rfl) (List.mem_of_getElem? (i := 20) rfl) (List.mem_of_getElem? (i := 5) rfl) hbX8_takeLeastAmount_X8_removeBasis gdX8_removeBasis) (Nat.le_trans (by decide : 0 + 1 ≤ 2) hd) (by decide) (hXS37 _ _ (hXS14 _ _ (hXS3 _ _ hl0A))).1 (fun cy => wAt_8 cy _ (hXS37 _ _ (hXS14 _ _ (hXS3 _ _ hl0A))).2) rfl ⟨by decide, by decide, by decide +kernel⟩ rfl rfl (Nat.le_of_ble_eq_true rfl) (Nat.le_refl 0) (Nat.le_refl 0) dX8_takeLeastAmount_112 (fun v' S42 hp => ?_)
              obtain ⟨v41, rfl, h, hWS42, hXS42⟩ := hp
              exact E _ _ _ _ _ (Nat.le_refl 0) (Nat.le_refl 0) dX8_takeLeastAmount_115 ⟨(), rfl, h, hWS42, (wkExt.tr (wkExt.tr (wkExt.tr (wkExt.tr hE hXS3) hXS14) hXS37) hXS42)⟩
          · rw [if_pos c9] at h
            exact E _ _ _ _ _ (Nat.le_refl 0) (Nat.le_refl 0) dX8_takeLeastAmount_50 ⟨(), rfl, h, hWS3, (wkExt.tr hE hXS3)⟩
      · rw [if_neg c1] at h
        refine wk_aload_n C dX8_takeLeastAmount_10 rfl rfl ?_
        refine wk_get C huX8_takeLeastAmount_8 hl0A.1 (fun cy => wAt_8 cy _ hl0A.2) rfl 2 (by decide) (List.mem_of_getElem? (i := 6) rfl) rfl (congrArg some (congrArg va_rf (wf_Numbers_amounts hW hl0A).1)) dX8_takeLeastAmount_11 ?_
        refine wk_iload_n C dX8_takeLeastAmount_14 rfl rfl ?_
        refine wk_aload_n C dX8_takeLeastAmount_15 rfl rfl ?_
        refine wk_get C huX8_takeLeastAmount_8 hl0A.1 (fun cy => wAt_8 cy _ hl0A.2) rfl 1 (by decide) (List.mem_of_getElem? (i := 21) rfl) rfl (congrArg some (congrArg va_rf (wf_Numbers_basis hW hl0A).1)) dX8_takeLeastAmount_16 ?_
        refine wk_iload_n C dX8_takeLeastAmount_19 rfl rfl ?_
        obtain ⟨i46, h⟩ := h
        have w47 := wf_R_J hW (wf_Numbers_basis hW hl0A).2 (Nat.not_le.mp fun q => i46 (Or.inr q))
        refine wk_aald_J C (wf_Numbers_basis hW hl0A).2.1 (wf_Numbers_basis hW hl0A).2.2 i46 w47.1 dX8_takeLeastAmount_20 ?_
        refine wk_iload_n C dX8_takeLeastAmount_21 rfl rfl ?_
        obtain ⟨i48, h⟩ := h
        refine wk_lald C w47.2.1 w47.2.2 i48 rfl dX8_takeLeastAmount_22 ?_
        obtain ⟨i49, h⟩ := h
        obtain ⟨S50, eS50, h⟩ := wkLt_some h
        refine wk_last C (wf_Numbers_amounts hW hl0A).2.1 (wf_Numbers_amounts hW hl0A).2.2 i49 eS50.symm dX8_takeLeastAmount_23 ?_
        have hWS50 : wkWF S50 := by rw [eS50]; exact hW
        have hXS50 : wkExt S S50 := by rw [eS50]; exact wkExt.rf
        obtain ⟨x51, ex51, h⟩ := wkLt_some h
        refine wk_iinc C (lv' := [some (.ref l0A), some (.int l1I), some (.int x51), none, none, none, none]) dX8_takeLeastAmount_24 rfl (by rw [ex51]; rfl) (by decide) rfl ?_
        refine wk_goto C (tgt := 2) dX8_takeLeastAmount_27 (by decide) ?_
        exact wk_forget (lv' := [some (.ref l0A), some (.int l1I), some (.int x51), none, none, none, none]) (wkLs.le ⟨rfl, rfl, rfl, trivial⟩) (ih _ _ _ _ hWS50 (wkExt.tr hE hXS50) (hXS50 _ _ hl0A) h)
set_option maxHeartbeats 4000000 in
set_option maxRecDepth 100000 in
theorem tX8_takeLeastAmount {l : Launch} {g : wkG} {F : Nat}  {S : wPS} {l0A : Nat} {l1I : Int32} {Φ : (Unit → wPS → Prop)} (hW : wkWF S) (hl0A : wkIs S l0A 8) (h : rX8_takeLeastAmount F l0A l1I S Φ) : wkMet l g yX8_takeLeastAmount wvX8_takeLeastAmount 2 0 0 [.ref l0A, .int l1I] S (fun v' S'' => ∃ v : Unit, v' = none ∧ Φ v S'' ∧ wkWF S'' ∧ wkExt S S'') := by
  refine wkMet_of (ret := none) (by decide) rfl (Nat.le_of_ble_eq_true rfl) (fun X hg C hR E => ?_)
  subst hg
  have hE : wkExt S S := wkExt.rf
  have hd : 2 ≤ 2 := Nat.le_refl _
  show wkGo l X 7 0 0 0 S [some (.ref l0A), some (.int l1I), none, none, none, none, none] []
  have ih := tX8_takeLeastAmount_go (F := F) C hR hd E F
  have h : rX8_takeLeastAmount_s F (rX8_takeLeastAmount_go F F) l0A l1I S Φ := h
  unfold rX8_takeLeastAmount_s at h
  refine wk_iconst C (v := 0) dX8_takeLeastAmount_0 (by decide) ?_
  refine wk_istore_n C (lv' := [some (.ref l0A), some (.int l1I), some (.int (0 : Int32)), none, none, none, none]) dX8_takeLeastAmount_1 rfl (by decide) rfl ?_
  exact wk_forget (lv' := [some (.ref l0A), some (.int l1I), some (.int (0 : Int32)), none, none, none, none]) (wkLs.le ⟨rfl, rfl, rfl, trivial⟩) (ih _ _ _ _ hW hE hl0A h)
