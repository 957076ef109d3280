def wvX6_writeLetters : List Cond := .code yX6_writeLetters cX6_writeLetters 7 none :: (([.fieldLink RX6 11 "Witnessworks$Machines" "byZero" "[I", .methodLink RX6 51 yX6_lettersAt, .instanceMethod yX6_lettersAt, .selects RX6 yX6_lettersAt yX6_lettersAt, .initialized RX6, .methodLink RX6 63 yX9_add, .instanceMethod yX9_add, .selects RX9 yX9_add yX9_add, .initialized RX9, .fieldLink RX6 15 "Witnessworks$Machines" "byOne" "[I"] : List Cond) ++ ((wsX60) ++ (wvX6_lettersAt ++ (wvX9_add))))
theorem huX6_writeLetters_6 : ∀ w ∈ u_ws RX6 TX6 8, w ∈ wvX6_writeLetters := fun w h => List.mem_cons_of_mem _ (List.mem_append_right _ (List.mem_append_left _ h))
theorem hbX6_writeLetters_X6_lettersAt : ∀ w ∈ wvX6_lettersAt, w ∈ wvX6_writeLetters := fun w h => List.mem_cons_of_mem _ (List.mem_append_right _ (List.mem_append_right _ (List.mem_append_left _ h)))
theorem hbX6_writeLetters_X9_add : ∀ w ∈ wvX9_add, w ∈ wvX6_writeLetters := fun w h => List.mem_cons_of_mem _ (List.mem_append_right _ (List.mem_append_right _ (List.mem_append_right _ h)))
theorem gdX6_writeLetters : ∀ w ∈ wvX6_writeLetters, wkGd w := wkGdC rfl (wkGdA (wkGdL (by decide +kernel)) (wkGdA gdX6 (wkGdA gdX6_lettersAt gdX9_add)))
def rX6_writeLetters_b0 (F : Nat) (k n : Nat) (rec : Nat → Nat → Nat → Nat → Nat → Int32 → Int32 → Int32 → Int32 → Nat → Int32 → wPS → (Unit → wPS → Prop) → Prop) (c s : Nat) (l0A : Nat) (l2A : Nat) (l3I : Int32) (l4I : Int32) (l5I : Int32) (S : wPS) (Φ : (Unit → wPS → Prop)) : Prop :=
  if l5I ≤ 0 then (Φ () S) else (¬ (l3I < 0 ∨ S.len (wkAd (gMachines_byZero S l0A)) ≤ (l3I).toNatClampNeg) ∧ ¬ (l4I < 0 ∨ S.len (wkAd (gMachines_byZero S l0A)) ≤ (l4I).toNatClampNeg) ∧ rX6_lettersAt F l0A (S.rI (wkAd (gMachines_byZero S l0A)) (l3I).toNatClampNeg) (S.rI (wkAd (gMachines_byZero S l0A)) (l4I).toNatClampNeg) S fun v4 S5 => if v4 = (l5I - (1 : Int32)) then (rec 1 c s l0A l2A l3I l4I l5I (1 : Int32) l2A (0 : Int32) S5 Φ) else (rec 1 c s l0A l2A l3I l4I l5I (0 : Int32) l2A (1 : Int32) S5 Φ))
def rX6_writeLetters_b1 (F : Nat) (k n : Nat) (rec : Nat → Nat → Nat → Nat → Nat → Int32 → Int32 → Int32 → Int32 → Nat → Int32 → wPS → (Unit → wPS → Prop) → Prop) (c s : Nat) (l0A : Nat) (l2A : Nat) (l3I : Int32) (l4I : Int32) (l5I : Int32) (l6I : Int32) (s0A : Nat) (s1I : Int32) (S : wPS) (Φ : (Unit → wPS → Prop)) : Prop :=
  ∃ k13 n14 : Nat, c + k13 ≤ k ∧ s + n14 ≤ n ∧ rX9_add F k13 n14 s0A s1I S fun v10 S11 => if l6I = 0 then (¬ (l3I < 0 ∨ S11.len (wkAd (gMachines_byOne S11 l0A)) ≤ (l3I).toNatClampNeg) ∧ wkLt ((S11.rI (wkAd (gMachines_byOne S11 l0A)) (l3I).toNatClampNeg)) fun x17 => if l6I = 0 then (¬ (l4I < 0 ∨ S11.len (wkAd (gMachines_byOne S11 l0A)) ≤ (l4I).toNatClampNeg) ∧ wkLt ((S11.rI (wkAd (gMachines_byOne S11 l0A)) (l4I).toNatClampNeg)) fun x20 => wkLt (l5I + (-1 : Int32)) fun x21 => rec 0 (c + k13) (s + n14) l0A l2A x17 x20 x21 0 0 0 S11 Φ) else (¬ (l4I < 0 ∨ S11.len (wkAd (gMachines_byZero S11 l0A)) ≤ (l4I).toNatClampNeg) ∧ wkLt ((S11.rI (wkAd (gMachines_byZero S11 l0A)) (l4I).toNatClampNeg)) fun x23 => wkLt (l5I + (-1 : Int32)) fun x24 => rec 0 (c + k13) (s + n14) l0A l2A x17 x23 x24 0 0 0 S11 Φ)) else (¬ (l3I < 0 ∨ S11.len (wkAd (gMachines_byZero S11 l0A)) ≤ (l3I).toNatClampNeg) ∧ wkLt ((S11.rI (wkAd (gMachines_byZero S11 l0A)) (l3I).toNatClampNeg)) fun x26 => if l6I = 0 then (¬ (l4I < 0 ∨ S11.len (wkAd (gMachines_byOne S11 l0A)) ≤ (l4I).toNatClampNeg) ∧ wkLt ((S11.rI (wkAd (gMachines_byOne S11 l0A)) (l4I).toNatClampNeg)) fun x29 => wkLt (l5I + (-1 : Int32)) fun x30 => rec 0 (c + k13) (s + n14) l0A l2A x26 x29 x30 0 0 0 S11 Φ) else (¬ (l4I < 0 ∨ S11.len (wkAd (gMachines_byZero S11 l0A)) ≤ (l4I).toNatClampNeg) ∧ wkLt ((S11.rI (wkAd (gMachines_byZero S11 l0A)) (l4I).toNatClampNeg)) fun x32 => wkLt (l5I + (-1 : Int32)) fun x33 => rec 0 (c + k13) (s + n14) l0A l2A x26 x32 x33 0 0 0 S11 Φ))
def rX6_writeLetters_go (F : Nat) (k n : Nat) : Nat → Nat → Nat → Nat → Nat → Nat → Int32 → Int32 → Int32 → Int32 → Nat → Int32 → wPS → (Unit → wPS → Prop) → Prop
  | 0, _, _, _, _, _, _, _, _, _, _, _, _, _ => False
  | k' + 1, lab, c, s, l0A, l2A, l3I, l4I, l5I, l6I, s0A, s1I, S, Φ => if lab = 0 then rX6_writeLetters_b0 F k n (rX6_writeLetters_go F k n k') c s l0A l2A l3I l4I l5I S Φ else if lab = 1 then rX6_writeLetters_b1 F k n (rX6_writeLetters_go F k n k') c s l0A l2A l3I l4I l5I l6I s0A s1I S Φ else False
def rX6_writeLetters_s (F : Nat) (k n : Nat) (rec : Nat → Nat → Nat → Nat → Nat → Int32 → Int32 → Int32 → Int32 → Nat → Int32 → wPS → (Unit → wPS → Prop) → Prop) (l0A : Nat) (l1I : Int32) (l2A : Nat) (S : wPS) (Φ : (Unit → wPS → Prop)) : Prop :=
  rX6_lettersAt F l0A (0 : Int32) l1I S fun v34 S35 => rec 0 0 0 l0A l2A (0 : Int32) l1I v34 0 0 0 S35 Φ
def rX6_writeLetters (F : Nat) (k n : Nat) (l0A : Nat) (l1I : Int32) (l2A : Nat) (S : wPS) (Φ : (Unit → wPS → Prop)) : Prop := rX6_writeLetters_s F k n (rX6_writeLetters_go F k n F) l0A l1I l2A S Φ
set_option maxHeartbeats 4000000 in
set_option maxRecDepth 100000 in
theorem tX6_writeLetters_go {k n : Nat} {l : Launch} {X : wkX} {d F : Nat} {S0 : wPS} {Φ : (Unit → wPS → Prop)} (C : wkC X cX6_writeLetters RX6 7 wvX6_writeLetters) (hR : wkRm X d k n) (hd : 3 ≤ d) (E : wkEnd l X cX6_writeLetters 7 none k n (fun v' S'' => ∃ v : Unit, v' = none ∧ Φ v S'' ∧ wkWF S'' ∧ wkExt S0 S'')) : ∀ k' : Nat, (∀ (c s : Nat), c ≤ k → s ≤ n → ∀ (l0A : Nat) (l2A : Nat) (l3I : Int32) (l4I : Int32) (l5I : Int32) (S : wPS), wkWF S → wkExt S0 S → wkIs S l0A 6 → wkIs S l2A 9 → rX6_writeLetters_go F k n k' 0 c s l0A l2A l3I l4I l5I 0 0 0 S Φ → wkGo l X 7 c s 14 S [some (.ref l0A), none, some (.ref l2A), some (.int l3I), some (.int l4I), some (.int l5I), none] []) ∧ (∀ (c s : Nat), c ≤ k → s ≤ n → ∀ (l0A : Nat) (l2A : Nat) (l3I : Int32) (l4I : Int32) (l5I : Int32) (l6I : Int32) (s0A : Nat) (s1I : Int32) (S : wPS), wkWF S → wkExt S0 S → wkIs S l0A 6 → wkIs S l2A 9 → wkIs S s0A 9 → rX6_writeLetters_go F k n k' 1 c s l0A l2A l3I l4I l5I l6I s0A s1I S Φ → wkGo l X 7 c s 61 S [some (.ref l0A), none, some (.ref l2A), some (.int l3I), some (.int l4I), some (.int l5I), some (.int l6I)] [.int s1I, .ref s0A]) := by
  intro k'
  induction k' with
  | zero => exact ⟨fun c s hc hs l0A l2A l3I l4I l5I S hW hE hl0A hl2A h => h.elim, fun c s hc hs l0A l2A l3I l4I l5I l6I s0A s1I S hW hE hl0A hl2A hs0A h => h.elim⟩
  | succ k' ih =>
    refine ⟨?_, ?_⟩
    · intro c s hc hs l0A l2A l3I l4I l5I S hW hE hl0A hl2A h
      have h : rX6_writeLetters_b0 F k n (rX6_writeLetters_go F k n k') c s l0A l2A l3I l4I l5I S Φ := by
        rw [rX6_writeLetters_go, if_pos (rfl : (0 : Nat) = 0)] at h
        exact h
      unfold rX6_writeLetters_b0 at h
      refine wk_iload C dX6_writeLetters_14 rfl ?_
      refine wk_if_le C (tgt := 115) dX6_writeLetters_16 (by decide) (fun c1 => ?_) (fun c1 => ?_)
      · rw [if_pos c1] at h
        exact E _ _ _ _ _ hc hs dX6_writeLetters_115 ⟨(), rfl, h, hW, hE⟩
      · rw [if_neg c1] at h
        refine wk_aload_n C dX6_writeLetters_19 rfl rfl ?_
        refine wk_aload_n C dX6_writeLetters_20 rfl rfl ?_
        refine wk_get C huX6_writeLetters_6 hl0A.1 (fun cy => wAt_6 cy _ hl0A.2) rfl 0 (by decide) (List.mem_of_getElem? (i := 1) rfl) rfl (congrArg some (congrArg va_rf (wf_Machines_byZero hW hl0A).1)) dX6_writeLetters_21 ?_
        refine wk_iload_n C dX6_writeLetters_24 rfl rfl ?_
        obtain ⟨i2, h⟩ := h
        refine wk_iald C (wf_Machines_byZero hW hl0A).2.1 (wf_Machines_byZero hW hl0A).2.2 i2 rfl dX6_writeLetters_25 ?_
        refine wk_aload_n C dX6_writeLetters_26 rfl rfl ?_
        refine wk_get C huX6_writeLetters_6 hl0A.1 (fun cy => wAt_6 cy _ hl0A.2) rfl 0 (by decide) (List.mem_of_getElem? (i := 1) rfl) rfl (congrArg some (congrArg va_rf (wf_Machines_byZero hW hl0A).1)) dX6_writeLetters_27 ?_
        refine wk_iload C dX6_writeLetters_30 rfl ?_
        obtain ⟨i3, h⟩ := h
        refine wk_iald C (wf_Machines_byZero hW hl0A).2.1 (wf_Machines_byZero hW hl0A).2.2 i3 rfl dX6_writeLetters_32 ?_
        refine wk_callV C hR (As := [.int (S.rI (wkAd (gMachines_byZero S l0A)) (l3I).toNatClampNeg), .int (S.rI (wkAd (gMachines_byZero S l0A)) (l4I).toNatClampNeg)]) (cnt := 2) (tX6_lettersAt (l := l) hW hl0A h) rfl (wkGoodV (List.mem_of_getElem? (i := 2) rfl) (List.mem_of_getElem? (i := 3) rfl) (List.mem_of_getElem? (i := 4) rfl) (List.mem_of_getElem? (i := 5) rfl) hbX6_writeLetters_X6_lettersAt gdX6_lettersAt) (Nat.le_trans (by decide : 0 + 1 ≤ 3) hd) (by decide) hl0A.1 (fun cy => wAt_6 cy _ hl0A.2) rfl ⟨by decide, by decide, by decide +kernel⟩ rfl rfl (Nat.le_of_ble_eq_true rfl) hc hs dX6_writeLetters_33 (fun v' S5 hp => ?_)
        obtain ⟨v4, rfl, h, hWS5, hXS5⟩ := hp
        refine wk_iload C dX6_writeLetters_36 rfl ?_
        refine wk_iconst C (v := 1) dX6_writeLetters_38 (by decide) ?_
        refine wk_isub C dX6_writeLetters_39 rfl ?_
        refine wk_icmp_ne C (tgt := 47) dX6_writeLetters_40 (by decide) (fun c9 => ?_) (fun c9 => ?_)
        · rw [if_neg c9] at h
          refine wk_iconst C (v := 0) dX6_writeLetters_47 (by decide) ?_
          refine wk_istore C (lv' := [some (.ref l0A), none, some (.ref l2A), some (.int l3I), some (.int l4I), some (.int l5I), some (.int (0 : Int32))]) dX6_writeLetters_48 (by decide) rfl ?_
          refine wk_aload_n C dX6_writeLetters_50 rfl rfl ?_
          refine wk_iload C dX6_writeLetters_51 rfl ?_
          refine wk_if_eq C (tgt := 60) dX6_writeLetters_53 (by decide) (fun _ => ?_) (fun c => False.elim (by revert c; decide))
          refine wk_iconst C (v := 1) dX6_writeLetters_60 (by decide) ?_
          exact wk_forget (lv' := [some (.ref l0A), none, some (.ref l2A), some (.int l3I), some (.int l4I), some (.int l5I), some (.int (0 : Int32))]) (wkLs.le ⟨rfl, rfl, rfl, rfl, rfl, rfl, trivial⟩) (ih.2 _ _ hc hs _ _ _ _ _ _ _ _ _ hWS5 (wkExt.tr hE hXS5) (hXS5 _ _ hl0A) (hXS5 _ _ hl2A) (hXS5 _ _ hl2A) h)
        · rw [if_pos c9] at h
          refine wk_iconst C (v := 1) dX6_writeLetters_43 (by decide) ?_
          refine wk_goto C (tgt := 48) dX6_writeLetters_44 (by decide) ?_
          refine wk_istore C (lv' := [some (.ref l0A), none, some (.ref l2A), some (.int l3I), some (.int l4I), some (.int l5I), some (.int (1 : Int32))]) dX6_writeLetters_48 (by decide) rfl ?_
          refine wk_aload_n C dX6_writeLetters_50 rfl rfl ?_
          refine wk_iload C dX6_writeLetters_51 rfl ?_
          refine wk_if_eq C (tgt := 60) dX6_writeLetters_53 (by decide) (fun c => False.elim (by revert c; decide)) (fun _ => ?_)
          refine wk_iconst C (v := 0) dX6_writeLetters_56 (by decide) ?_
          refine wk_goto C (tgt := 61) dX6_writeLetters_57 (by decide) ?_
          exact wk_forget (lv' := [some (.ref l0A), none, some (.ref l2A), some (.int l3I), some (.int l4I), some (.int l5I), some (.int (1 : Int32))]) (wkLs.le ⟨rfl, rfl, rfl, rfl, rfl, rfl, trivial⟩) (ih.2 _ _ hc hs _ _ _ _ _ _ _ _ _ hWS5 (wkExt.tr hE hXS5) (hXS5 _ _ hl0A) (hXS5 _ _ hl2A) (hXS5 _ _ hl2A) h)
    · intro c s hc hs l0A l2A l3I l4I l5I l6I s0A s1I S hW hE hl0A hl2A hs0A h
      have h : rX6_writeLetters_b1 F k n (rX6_writeLetters_go F k n k') c s l0A l2A l3I l4I l5I l6I s0A s1I S Φ := by
        rw [rX6_writeLetters_go, if_neg (show ¬ (1 : Nat) = 0 by decide), if_pos (rfl : (1 : Nat) = 1)] at h
        exact h
      unfold rX6_writeLetters_b1 at h
      obtain ⟨k13, n14, hk13, hn14, h⟩ := h
      refine wk_callV C hR (As := [.int s1I]) (cnt := 1) (tX9_add (l := l) hW hs0A h) rfl (wkGoodV (List.mem_of_getElem? (i := 6) rfl) (List.mem_of_getElem? (i := 7) rfl) (List.mem_of_getElem? (i := 8) rfl) (List.mem_of_getElem? (i := 9) rfl) hbX6_writeLetters_X9_add gdX9_add) (Nat.le_trans (by decide : 2 + 1 ≤ 3) hd) (by decide) hs0A.1 (fun cy => wAt_9 cy _ hs0A.2) rfl ⟨by decide, by decide, by decide +kernel⟩ rfl rfl (Nat.le_of_ble_eq_true rfl) hk13 hn14 dX6_writeLetters_61 (fun v' S11 hp => ?_)
      obtain ⟨v10, rfl, h, hWS11, hXS11⟩ := hp
      refine wk_iload C dX6_writeLetters_64 rfl ?_
      refine wk_if_eq C (tgt := 78) dX6_writeLetters_66 (by decide) (fun c15 => ?_) (fun c15 => ?_)
      · rw [if_pos c15] at h
        refine wk_aload_n C dX6_writeLetters_78 rfl rfl ?_
        refine wk_get C huX6_writeLetters_6 (hXS11 _ _ hl0A).1 (fun cy => wAt_6 cy _ (hXS11 _ _ hl0A).2) rfl 1 (by decide) (List.mem_of_getElem? (i := 10) rfl) rfl (congrArg some (congrArg va_rf (wf_Machines_byOne hWS11 (hXS11 _ _ hl0A)).1)) dX6_writeLetters_79 ?_
        refine wk_iload_n C dX6_writeLetters_82 rfl rfl ?_
        obtain ⟨i16, h⟩ := h
        refine wk_iald C (wf_Machines_byOne hWS11 (hXS11 _ _ hl0A)).2.1 (wf_Machines_byOne hWS11 (hXS11 _ _ hl0A)).2.2 i16 rfl dX6_writeLetters_83 ?_
        obtain ⟨x17, ex17, h⟩ := wkLt_some h
        refine wk_topi ex17 ?_
        refine wk_istore_n C (lv' := [some (.ref l0A), none, some (.ref l2A), some (.int x17), some (.int l4I), some (.int l5I), some (.int l6I)]) dX6_writeLetters_84 rfl (by decide) rfl ?_
        refine wk_iload C dX6_writeLetters_85 rfl ?_
        refine wk_if_eq C (tgt := 100) dX6_writeLetters_87 (by decide) (fun c18 => ?_) (fun c18 => ?_)
        · rw [if_pos c18] at h
          refine wk_aload_n C dX6_writeLetters_100 rfl rfl ?_
          refine wk_get C huX6_writeLetters_6 (hXS11 _ _ hl0A).1 (fun cy => wAt_6 cy _ (hXS11 _ _ hl0A).2) rfl 1 (by decide) (List.mem_of_getElem? (i := 10) rfl) rfl (congrArg some (congrArg va_rf (wf_Machines_byOne hWS11 (hXS11 _ _ hl0A)).1)) dX6_writeLetters_101 ?_
          refine wk_iload C dX6_writeLetters_104 rfl ?_
          obtain ⟨i19, h⟩ := h
          refine wk_iald C (wf_Machines_byOne hWS11 (hXS11 _ _ hl0A)).2.1 (wf_Machines_byOne hWS11 (hXS11 _ _ hl0A)).2.2 i19 rfl dX6_writeLetters_106 ?_
          obtain ⟨x20, ex20, h⟩ := wkLt_some h
          refine wk_topi ex20 ?_
          refine wk_istore C (lv' := [some (.ref l0A), none, some (.ref l2A), some (.int x17), some (.int x20), some (.int l5I), some (.int l6I)]) dX6_writeLetters_107 (by decide) rfl ?_
          obtain ⟨x21, ex21, h⟩ := wkLt_some h
          refine wk_iinc C (lv' := [some (.ref l0A), none, some (.ref l2A), some (.int x17), some (.int x20), some (.int x21), some (.int l6I)]) dX6_writeLetters_109 rfl (by rw [ex21]; rfl) (by decide) rfl ?_
          refine wk_goto C (tgt := 14) dX6_writeLetters_112 (by decide) ?_
          exact wk_forget (lv' := [some (.ref l0A), none, some (.ref l2A), some (.int x17), some (.int x20), some (.int x21), none]) (wkLs.le ⟨rfl, rfl, rfl, rfl, rfl, trivial⟩) (ih.1 _ _ hk13 hn14 _ _ _ _ _ _ hWS11 (wkExt.tr hE hXS11) (hXS11 _ _ hl0A) (hXS11 _ _ hl2A) h)
        · rw [if_neg c18] at h
          refine wk_aload_n C dX6_writeLetters_90 rfl rfl ?_
          refine wk_get C huX6_writeLetters_6 (hXS11 _ _ hl0A).1 (fun cy => wAt_6 cy _ (hXS11 _ _ hl0A).2) rfl 0 (by decide) (List.mem_of_getElem? (i := 1) rfl) rfl (congrArg some (congrArg va_rf (wf_Machines_byZero hWS11 (hXS11 _ _ hl0A)).1)) dX6_writeLetters_91 ?_
          refine wk_iload C dX6_writeLetters_94 rfl ?_
          obtain ⟨i22, h⟩ := h
          refine wk_iald C (wf_Machines_byZero hWS11 (hXS11 _ _ hl0A)).2.1 (wf_Machines_byZero hWS11 (hXS11 _ _ hl0A)).2.2 i22 rfl dX6_writeLetters_96 ?_
          refine wk_goto C (tgt := 107) dX6_writeLetters_97 (by decide) ?_
          obtain ⟨x23, ex23, h⟩ := wkLt_some h
          refine wk_topi ex23 ?_
          refine wk_istore C (lv' := [some (.ref l0A), none, some (.ref l2A), some (.int x17), some (.int x23), some (.int l5I), some (.int l6I)]) dX6_writeLetters_107 (by decide) rfl ?_
          obtain ⟨x24, ex24, h⟩ := wkLt_some h
          refine wk_iinc C (lv' := [some (.ref l0A), none, some (.ref l2A), some (.int x17), some (.int x23), some (.int x24), some (.int l6I)]) dX6_writeLetters_109 rfl (by rw [ex24]; rfl) (by decide) rfl ?_
          refine wk_goto C (tgt := 14) dX6_writeLetters_112 (by decide) ?_
          exact wk_forget (lv' := [some (.ref l0A), none, some (.ref l2A), some (.int x17), some (.int x23), some (.int x24), none]) (wkLs.le ⟨rfl, rfl, rfl, rfl, rfl, trivial⟩) (ih.1 _ _ hk13 hn14 _ _ _ _ _ _ hWS11 (wkExt.tr hE hXS11) (hXS11 _ _ hl0A) (hXS11 _ _ hl2A) h)
      · rw [if_neg c15] at h
        refine wk_aload_n C dX6_writeLetters_69 rfl rfl ?_
        refine wk_get C huX6_writeLetters_6 (hXS11 _ _ hl0A).1 (fun cy => wAt_6 cy _ (hXS11 _ _ hl0A).2) rfl 0 (by decide) (List.mem_of_getElem? (i := 1) rfl) rfl (congrArg some (congrArg va_rf (wf_Machines_byZero hWS11 (hXS11 _ _ hl0A)).1)) dX6_writeLetters_70 ?_
        refine wk_iload_n C dX6_writeLetters_73 rfl rfl ?_
        obtain ⟨i25, h⟩ := h
        refine wk_iald C (wf_Machines_byZero hWS11 (hXS11 _ _ hl0A)).2.1 (wf_Machines_byZero hWS11 (hXS11 _ _ hl0A)).2.2 i25 rfl dX6_writeLetters_74 ?_
        refine wk_goto C (tgt := 84) dX6_writeLetters_75 (by decide) ?_
        obtain ⟨x26, ex26, h⟩ := wkLt_some h
        refine wk_topi ex26 ?_
        refine wk_istore_n C (lv' := [some (.ref l0A), none, some (.ref l2A), some (.int x26), some (.int l4I), some (.int l5I), some (.int l6I)]) dX6_writeLetters_84 rfl (by decide) rfl ?_
        refine wk_iload C dX6_writeLetters_85 rfl ?_
        refine wk_if_eq C (tgt := 100) dX6_writeLetters_87 (by decide) (fun c27 => ?_) (fun c27 => ?_)
        · rw [if_pos c27] at h
          refine wk_aload_n C dX6_writeLetters_100 rfl rfl ?_
          refine wk_get C huX6_writeLetters_6 (hXS11 _ _ hl0A).1 (fun cy => wAt_6 cy _ (hXS11 _ _ hl0A).2) rfl 1 (by decide) (List.mem_of_getElem? (i := 10) rfl) rfl (congrArg some (congrArg va_rf (wf_Machines_byOne hWS11 (hXS11 _ _ hl0A)).1)) dX6_writeLetters_101 ?_
          refine wk_iload C dX6_writeLetters_104 rfl ?_
          obtain ⟨i28, h⟩ := h
          refine wk_iald C (wf_Machines_byOne hWS11 (hXS11 _ _ hl0A)).2.1 (wf_Machines_byOne hWS11 (hXS11 _ _ hl0A)).2.2 i28 rfl dX6_writeLetters_106 ?_
          obtain ⟨x29, ex29, h⟩ := wkLt_some h
          refine wk_topi ex29 ?_
          refine wk_istore C (lv' := [some (.ref l0A), none, some (.ref l2A), some (.int x26), some (.int x29), some (.int l5I), some (.int l6I)]) dX6_writeLetters_107 (by decide) rfl ?_
          obtain ⟨x30, ex30, h⟩ := wkLt_some h
          refine wk_iinc C (lv' := [some (.ref l0A), none, some (.ref l2A), some (.int x26), some (.int x29), some (.int x30), some (.int l6I)]) dX6_writeLetters_109 rfl (by rw [ex30]; rfl) (by decide) rfl ?_
          refine wk_goto C (tgt := 14) dX6_writeLetters_112 (by decide) ?_
          exact wk_forget (lv' := [some (.ref l0A), none, some (.ref l2A), some (.int x26), some (.int x29), some (.int x30), none]) (wkLs.le ⟨rfl, rfl, rfl, rfl, rfl, trivial⟩) (ih.1 _ _ hk13 hn14 _ _ _ _ _ _ hWS11 (wkExt.tr hE hXS11) (hXS11 _ _ hl0A) (hXS11 _ _ hl2A) h)
        · rw [if_neg c27] at h
          refine wk_aload_n C dX6_writeLetters_90 rfl rfl ?_
          refine wk_get C huX6_writeLetters_6 (hXS11 _ _ hl0A).1 (fun cy => wAt_6 cy _ (hXS11 _ _ hl0A).2) rfl 0 (by decide) (List.mem_of_getElem? (i := 1) rfl) rfl (congrArg some (congrArg va_rf (wf_Machines_byZero hWS11 (hXS11 _ _ hl0A)).1)) dX6_writeLetters_91 ?_
          refine wk_iload C dX6_writeLetters_94 rfl ?_
          obtain ⟨i31, h⟩ := h
          refine wk_iald C (wf_Machines_byZero hWS11 (hXS11 _ _ hl0A)).2.1 (wf_Machines_byZero hWS11 (hXS11 _ _ hl0A)).2.2 i31 rfl dX6_writeLetters_96 ?_
          refine wk_goto C (tgt := 107) dX6_writeLetters_97 (by decide) ?_
          obtain ⟨x32, ex32, h⟩ := wkLt_some h
          refine wk_topi ex32 ?_
          refine wk_istore C (lv' := [some (.ref l0A), none, some (.ref l2A), some (.int x26), some (.int x32), some (.int l5I), some (.int l6I)]) dX6_writeLetters_107 (by decide) rfl ?_
          obtain ⟨x33, ex33, h⟩ := wkLt_some h
          refine wk_iinc C (lv' := [some (.ref l0A), none, some (.ref l2A), some (.int x26), some (.int x32), some (.int x33), some (.int l6I)]) dX6_writeLetters_109 rfl (by rw [ex33]; rfl) (by decide) rfl ?_
          refine wk_goto C (tgt := 14) dX6_writeLetters_112 (by decide) ?_
          exact wk_forget (lv' := [some (.ref l0A), none, some (.ref l2A), some (.int x26), some (.int x32), some (.int x33), none]) (wkLs.le ⟨rfl, rfl, rfl, rfl, rfl, trivial⟩) (ih.1 _ _ hk13 hn14 _ _ _ _ _ _ hWS11 (wkExt.tr hE hXS11) (hXS11 _ _ hl0A) (hXS11 _ _ hl2A) h)
set_option maxHeartbeats 4000000 in
set_option maxRecDepth 100000 in
theorem tX6_writeLetters {l : Launch} {g : wkG} {F : Nat} {k n : Nat}  {S : wPS} {l0A : Nat} {l1I : Int32} {l2A : Nat} {Φ : (Unit → wPS → Prop)} (hW : wkWF S) (hl0A : wkIs S l0A 6) (hl2A : wkIs S l2A 9) (h : rX6_writeLetters F k n l0A l1I l2A S Φ) : wkMet l g yX6_writeLetters wvX6_writeLetters 3 k n [.ref l0A, .int l1I, .ref l2A] S (fun v' S'' => ∃ v : Unit, v' = none ∧ Φ v S'' ∧ wkWF S'' ∧ wkExt S S'') := by
  refine wkMet_of (ret := none) (by decide) rfl (Nat.le_of_ble_eq_true rfl) (fun X hg C hR E => ?_)
  subst hg
  have hE : wkExt S S := wkExt.rf
  have hd : 3 ≤ 3 := Nat.le_refl _
  show wkGo l X 7 0 0 0 S [some (.ref l0A), some (.int l1I), some (.ref l2A), none, none, none, none] []
  have ih := tX6_writeLetters_go (F := F) C hR hd E F
  have h : rX6_writeLetters_s F k n (rX6_writeLetters_go F k n F) l0A l1I l2A S Φ := h
  unfold rX6_writeLetters_s at h
  refine wk_iconst C (v := 0) dX6_writeLetters_0 (by decide) ?_
  refine wk_istore_n C (lv' := [some (.ref l0A), some (.int l1I), some (.ref l2A), some (.int (0 : Int32)), none, none, none]) dX6_writeLetters_1 rfl (by decide) rfl ?_
  refine wk_iload_n C dX6_writeLetters_2 rfl rfl ?_
  refine wk_istore C (lv' := [some (.ref l0A), some (.int l1I), some (.ref l2A), some (.int (0 : Int32)), some (.int l1I), none, none]) dX6_writeLetters_3 (by decide) rfl ?_
  refine wk_aload_n C dX6_writeLetters_5 rfl rfl ?_
  refine wk_iload_n C dX6_writeLetters_6 rfl rfl ?_
  refine wk_iload C dX6_writeLetters_7 rfl ?_
  refine wk_callV C hR (As := [.int (0 : Int32), .int l1I]) (cnt := 2) (tX6_lettersAt (l := l) hW hl0A h) rfl (wkGoodV (List.mem_of_getElem? (i := 2) rfl) (List.mem_of_getElem? (i := 3) rfl) (List.mem_of_getElem? (i := 4) rfl) (List.mem_of_getElem? (i := 5) rfl) hbX6_writeLetters_X6_lettersAt gdX6_lettersAt) (Nat.le_trans (by decide : 0 + 1 ≤ 3) hd) (by decide) hl0A.1 (fun cy => wAt_6 cy _ hl0A.2) rfl ⟨by decide, by decide, by decide +kernel⟩ rfl rfl (Nat.le_of_ble_eq_true rfl) (Nat.zero_le _) (Nat.zero_le _) dX6_writeLetters_9 (fun v' S35 hp => ?_)
  obtain ⟨v34, rfl, h, hWS35, hXS35⟩ := hp
  refine wk_istore C (lv' := [some (.ref l0A), some (.int l1I), some (.ref l2A), some (.int (0 : Int32)), some (.int l1I), some (.int v34), none]) dX6_writeLetters_12 (by decide) rfl ?_
  exact wk_forget (lv' := [some (.ref l0A), none, some (.ref l2A), some (.int (0 : Int32)), some (.int l1I), some (.int v34), none]) (wkLs.le ⟨rfl, rfl, rfl, rfl, rfl, trivial⟩) (ih.1 _ _ (Nat.zero_le _) (Nat.zero_le _) _ _ _ _ _ _ hWS35 (wkExt.tr hE hXS35) (hXS35 _ _ hl0A) (hXS35 _ _ hl2A) h)
def wvX6_judgeLikeness : List Cond := .code yX6_judgeLikeness cX6_judgeLikeness 5 (some .int) :: (([.fieldLink RX6 43 "Witnessworks$Machines" "size" "I", .methodLink RX6 99 yX9_at, .instanceMethod yX9_at, .selects RX9 yX9_at yX9_at, .initialized RX9, .fieldLink RX6 18 "Witnessworks$Machines" "finals" "[I", .methodLink RX6 37 yX3_nodeAsked, .instanceMethod yX3_nodeAsked, .selects RX3 yX3_nodeAsked yX3_nodeAsked, .initialized RX3, .methodLink RX6 101 yX6_goAlike, .instanceMethod yX6_goAlike, .selects RX6 yX6_goAlike yX6_goAlike, .initialized RX6, .methodLink RX6 80 yX6_loadStates, .instanceMethod yX6_loadStates, .selects RX6 yX6_loadStates yX6_loadStates, .fieldLink RX6 93 "Witnessworks$Row" "count" "I", .methodLink RX6 96 yX9_liesWithin, .instanceMethod yX9_liesWithin, .selects RX9 yX9_liesWithin yX9_liesWithin] : List Cond) ++ ((wsX60 ++ (wsX90)) ++ (wvX9_at ++ (wvX3_nodeAsked ++ (wvX6_goAlike ++ (wvX6_loadStates ++ (wvX9_liesWithin)))))))
theorem huX6_judgeLikeness_6 : ∀ w ∈ u_ws RX6 TX6 8, w ∈ wvX6_judgeLikeness := fun w h => List.mem_cons_of_mem _ (List.mem_append_right _ (List.mem_append_left _ (List.mem_append_left _ h)))
theorem huX6_judgeLikeness_9 : ∀ w ∈ u_ws RX9 TX9 2, w ∈ wvX6_judgeLikeness := fun w h => List.mem_cons_of_mem _ (List.mem_append_right _ (List.mem_append_left _ (List.mem_append_right _ h)))
theorem hbX6_judgeLikeness_X9_at : ∀ w ∈ wvX9_at, w ∈ wvX6_judgeLikeness := fun w h => List.mem_cons_of_mem _ (List.mem_append_right _ (List.mem_append_right _ (List.mem_append_left _ h)))
theorem hbX6_judgeLikeness_X3_nodeAsked : ∀ w ∈ wvX3_nodeAsked, w ∈ wvX6_judgeLikeness := fun w h => List.mem_cons_of_mem _ (List.mem_append_right _ (List.mem_append_right _ (List.mem_append_right _ (List.mem_append_left _ h))))
theorem hbX6_judgeLikeness_X6_goAlike : ∀ w ∈ wvX6_goAlike, w ∈ wvX6_judgeLikeness := fun w h => List.mem_cons_of_mem _ (List.mem_append_right _ (List.mem_append_right _ (List.mem_append_right _ (List.mem_append_right _ (List.mem_append_left _ h)))))
theorem hbX6_judgeLikeness_X6_loadStates : ∀ w ∈ wvX6_loadStates, w ∈ wvX6_judgeLikeness := fun w h => List.mem_cons_of_mem _ (List.mem_append_right _ (List.mem_append_right _ (List.mem_append_right _ (List.mem_append_right _ (List.mem_append_right _ (List.mem_append_left _ h))))))
theorem hbX6_judgeLikeness_X9_liesWithin : ∀ w ∈ wvX9_liesWithin, w ∈ wvX6_judgeLikeness := fun w h => List.mem_cons_of_mem _ (List.mem_append_right _ (List.mem_append_right _ (List.mem_append_right _ (List.mem_append_right _ (List.mem_append_right _ (List.mem_append_right _ h))))))
theorem gdX6_judgeLikeness : ∀ w ∈ wvX6_judgeLikeness, wkGd w := wkGdC rfl (wkGdA (wkGdL (by decide +kernel)) (wkGdA (wkGdA gdX6 gdX9) (wkGdA gdX9_at (wkGdA gdX3_nodeAsked (wkGdA gdX6_goAlike (wkGdA gdX6_loadStates gdX9_liesWithin))))))
def rX6_judgeLikeness_b0 (F : Nat) (rec : Nat → Nat → Nat → Nat → Int32 → Int32 → wPS → (Int32 → wPS → Prop) → Prop) (l0A : Nat) (l1A : Nat) (l2A : Nat) (l3I : Int32) (S : wPS) (Φ : (Int32 → wPS → Prop)) : Prop :=
  if (gMachines_size S l0A) ≤ l3I then (rec 2 l0A l1A l2A (0 : Int32) 0 S Φ) else (rec 1 l0A l1A l2A l3I (0 : Int32) S Φ)
def rX6_judgeLikeness_b1 (F : Nat) (rec : Nat → Nat → Nat → Nat → Int32 → Int32 → wPS → (Int32 → wPS → Prop) → Prop) (l0A : Nat) (l1A : Nat) (l2A : Nat) (l3I : Int32) (l4I : Int32) (S : wPS) (Φ : (Int32 → wPS → Prop)) : Prop :=
  if l3I ≤ l4I then (wkLt (l3I + (1 : Int32)) fun x3 => rec 0 l0A l1A l2A x3 0 S Φ) else (rX9_at F l2A l3I S fun v4 S5 => rX9_at F l2A l4I S5 fun v9 S10 => if v4 = v9 then (¬ (l3I < 0 ∨ S10.len (wkAd (gMachines_finals S10 l0A)) ≤ (l3I).toNatClampNeg) ∧ ¬ (l4I < 0 ∨ S10.len (wkAd (gMachines_finals S10 l0A)) ≤ (l4I).toNatClampNeg) ∧ if (S10.rI (wkAd (gMachines_finals S10 l0A)) (l3I).toNatClampNeg) = (S10.rI (wkAd (gMachines_finals S10 l0A)) (l4I).toNatClampNeg) then (wkLt (l4I + (1 : Int32)) fun x19 => rec 1 l0A l1A l2A l3I x19 S10 Φ) else (Φ (2 : Int32) S10)) else (wkLt (l4I + (1 : Int32)) fun x15 => rec 1 l0A l1A l2A l3I x15 S10 Φ))
def rX6_judgeLikeness_b2 (F : Nat) (rec : Nat → Nat → Nat → Nat → Int32 → Int32 → wPS → (Int32 → wPS → Prop) → Prop) (l0A : Nat) (l1A : Nat) (l2A : Nat) (l3I : Int32) (S : wPS) (Φ : (Int32 → wPS → Prop)) : Prop :=
  if (gMachines_size S l0A) ≤ l3I then (rX9_at F l2A (0 : Int32) S fun v21 S22 => rX3_nodeAsked F l1A S22 fun v26 S27 => rX9_at F l2A v26 S27 fun v31 S32 => if v21 = v31 then (Φ (0 : Int32) S32) else (Φ (4 : Int32) S32)) else (rec 3 l0A l1A l2A l3I (0 : Int32) S Φ)
def rX6_judgeLikeness_b3 (F : Nat) (rec : Nat → Nat → Nat → Nat → Int32 → Int32 → wPS → (Int32 → wPS → Prop) → Prop) (l0A : Nat) (l1A : Nat) (l2A : Nat) (l3I : Int32) (l4I : Int32) (S : wPS) (Φ : (Int32 → wPS → Prop)) : Prop :=
  if l3I ≤ l4I then (wkLt (l3I + (1 : Int32)) fun x38 => rec 2 l0A l1A l2A x38 0 S Φ) else (rX9_at F l2A l3I S fun v39 S40 => rX9_at F l2A l4I S40 fun v44 S45 => if v39 = v44 then (rX6_goAlike F l0A l2A l3I l4I S45 fun v51 S52 => if v51 = 0 then (Φ (3 : Int32) S52) else (wkLt (l4I + (1 : Int32)) fun x57 => rec 3 l0A l1A l2A l3I x57 S52 Φ)) else (wkLt (l4I + (1 : Int32)) fun x50 => rec 3 l0A l1A l2A l3I x50 S45 Φ))
def rX6_judgeLikeness_go (F : Nat) : Nat → Nat → Nat → Nat → Nat → Int32 → Int32 → wPS → (Int32 → wPS → Prop) → Prop
  | 0, _, _, _, _, _, _, _, _ => False
  | k' + 1, lab, l0A, l1A, l2A, l3I, l4I, S, Φ => if lab = 0 then rX6_judgeLikeness_b0 F (rX6_judgeLikeness_go F k') l0A l1A l2A l3I S Φ else if lab = 1 then rX6_judgeLikeness_b1 F (rX6_judgeLikeness_go F k') l0A l1A l2A l3I l4I S Φ else if lab = 2 then rX6_judgeLikeness_b2 F (rX6_judgeLikeness_go F k') l0A l1A l2A l3I S Φ else if lab = 3 then rX6_judgeLikeness_b3 F (rX6_judgeLikeness_go F k') l0A l1A l2A l3I l4I S Φ else False
def rX6_judgeLikeness_s (F : Nat) (rec : Nat → Nat → Nat → Nat → Int32 → Int32 → wPS → (Int32 → wPS → Prop) → Prop) (l0A : Nat) (l1A : Nat) (l2A : Nat) (S : wPS) (Φ : (Int32 → wPS → Prop)) : Prop :=
  rX6_loadStates F l0A l1A S fun v58 S59 => if (gRow_count S59 l2A) = (gMachines_size S59 l0A) then (rX9_liesWithin F l2A (0 : Int32) (0 : Int32) ((gMachines_size S59 l0A) - (1 : Int32)) S59 fun v64 S65 => if v64 = 0 then (Φ (1 : Int32) S65) else (rec 0 l0A l1A l2A (0 : Int32) 0 S65 Φ)) else (Φ (1 : Int32) S59)
def rX6_judgeLikeness (F : Nat) (l0A : Nat) (l1A : Nat) (l2A : Nat) (S : wPS) (Φ : (Int32 → wPS → Prop)) : Prop := rX6_judgeLikeness_s F (rX6_judgeLikeness_go F F) l0A l1A l2A S Φ
set_option maxHeartbeats 4000000 in
set_option maxRecDepth 100000 in
theorem tX6_judgeLikeness_go {l : Launch} {X : wkX} {d F : Nat} {S0 : wPS} {Φ : (Int32 → wPS → Prop)} (C : wkC X cX6_judgeLikeness RX6 5 wvX6_judgeLikeness) (hR : wkRm X d 0 0) (hd : 2 ≤ d) (E : wkEnd l X cX6_judgeLikeness 5 (some .int) 0 0 (fun v' S'' => ∃ v : Int32, v' = some (.int v) ∧ Φ v S'' ∧ wkWF S'' ∧ wkExt S0 S'')) : ∀ k' : Nat, (∀ (l0A : Nat) (l1A : Nat) (l2A : Nat) (l3I : Int32) (S : wPS), wkWF S → wkExt S0 S → wkIs S l0A 6 → wkIs S l1A 3 → wkIs S l2A 9 → rX6_judgeLikeness_go F k' 0 l0A l1A l2A l3I 0 S Φ → wkGo l X 5 0 0 35 S [some (.ref l0A), some (.ref l1A), some (.ref l2A), some (.int l3I), none] []) ∧ (∀ (l0A : Nat) (l1A : Nat) (l2A : Nat) (l3I : Int32) (l4I : Int32) (S : wPS), wkWF S → wkExt S0 S → wkIs S l0A 6 → wkIs S l1A 3 → wkIs S l2A 9 → rX6_judgeLikeness_go F k' 1 l0A l1A l2A l3I l4I S Φ → wkGo l X 5 0 0 46 S [some (.ref l0A), some (.ref l1A), some (.ref l2A), some (.int l3I), some (.int l4I)] []) ∧ (∀ (l0A : Nat) (l1A : Nat) (l2A : Nat) (l3I : Int32) (S : wPS), wkWF S → wkExt S0 S → wkIs S l0A 6 → wkIs S l1A 3 → wkIs S l2A 9 → rX6_judgeLikeness_go F k' 2 l0A l1A l2A l3I 0 S Φ → wkGo l X 5 0 0 98 S [some (.ref l0A), some (.ref l1A), some (.ref l2A), some (.int l3I), none] []) ∧ (∀ (l0A : Nat) (l1A : Nat) (l2A : Nat) (l3I : Int32) (l4I : Int32) (S : wPS), wkWF S → wkExt S0 S → wkIs S l0A 6 → wkIs S l1A 3 → wkIs S l2A 9 → rX6_judgeLikeness_go F k' 3 l0A l1A l2A l3I l4I S Φ → wkGo l X 5 0 0 109 S [some (.ref l0A), some (.ref l1A), some (.ref l2A), some (.int l3I), some (.int l4I)] []) := by
  intro k'
  induction k' with
  | zero => exact ⟨fun l0A l1A l2A l3I S hW hE hl0A hl1A hl2A h => h.elim, fun l0A l1A l2A l3I l4I S hW hE hl0A hl1A hl2A h => h.elim, fun l0A l1A l2A l3I S hW hE hl0A hl1A hl2A h => h.elim, fun l0A l1A l2A l3I l4I S hW hE hl0A hl1A hl2A h => h.elim⟩
  | succ k' ih =>
    refine ⟨?_, ?_, ?_, ?_⟩
    · intro l0A l1A l2A l3I S hW hE hl0A hl1A hl2A h
      have h : rX6_judgeLikeness_b0 F (rX6_judgeLikeness_go F k') l0A l1A l2A l3I S Φ := by
        rw [rX6_judgeLikeness_go, if_pos (rfl : (0 : Nat) = 0)] at h
        exact h
      unfold rX6_judgeLikeness_b0 at h
      refine wk_iload_n C dX6_judgeLikeness_35 rfl rfl ?_
      refine wk_aload_n C dX6_judgeLikeness_36 rfl rfl ?_
      refine wk_get C (v := .int (gMachines_size S l0A)) huX6_judgeLikeness_6 hl0A.1 (fun cy => wAt_6 cy _ hl0A.2) rfl 7 (by decide) (List.mem_of_getElem? (i := 1) rfl) rfl rfl dX6_judgeLikeness_37 ?_
      refine wk_icmp_ge C (tgt := 96) dX6_judgeLikeness_40 (by decide) (fun c1 => ?_) (fun c1 => ?_)
      · rw [if_pos c1] at h
        refine wk_iconst C (v := 0) dX6_judgeLikeness_96 (by decide) ?_
        refine wk_istore_n C (lv' := [some (.ref l0A), some (.ref l1A), some (.ref l2A), some (.int (0 : Int32)), none]) dX6_judgeLikeness_97 rfl (by decide) rfl ?_
        exact wk_forget (lv' := [some (.ref l0A), some (.ref l1A), some (.ref l2A), some (.int (0 : Int32)), none]) (wkLs.le ⟨rfl, rfl, rfl, rfl, trivial⟩) (ih.2.2.1 _ _ _ _ _ hW hE hl0A hl1A hl2A h)
      · rw [if_neg c1] at h
        refine wk_iconst C (v := 0) dX6_judgeLikeness_43 (by decide) ?_
        refine wk_istore C (lv' := [some (.ref l0A), some (.ref l1A), some (.ref l2A), some (.int l3I), some (.int (0 : Int32))]) dX6_judgeLikeness_44 (by decide) rfl ?_
        exact wk_forget (lv' := [some (.ref l0A), some (.ref l1A), some (.ref l2A), some (.int l3I), some (.int (0 : Int32))]) (wkLs.le ⟨rfl, rfl, rfl, rfl, rfl, trivial⟩) (ih.2.1 _ _ _ _ _ _ hW hE hl0A hl1A hl2A h)
    · intro l0A l1A l2A l3I l4I S hW hE hl0A hl1A hl2A h
      have h : rX6_judgeLikeness_b1 F (rX6_judgeLikeness_go F k') l0A l1A l2A l3I l4I S Φ := by
        rw [rX6_judgeLikeness_go, if_neg (show ¬ (1 : Nat) = 0 by decide), if_pos (rfl : (1 : Nat) = 1)] at h
        exact h
      unfold rX6_judgeLikeness_b1 at h
      refine wk_iload C dX6_judgeLikeness_46 rfl ?_
      refine wk_iload_n C dX6_judgeLikeness_48 rfl rfl ?_
      refine wk_icmp_ge C (tgt := 90) dX6_judgeLikeness_49 (by decide) (fun c2 => ?_) (fun c2 => ?_)
      · rw [if_pos c2] at h
        obtain ⟨x3, ex3, h⟩ := wkLt_some h
        refine wk_iinc C (lv' := [some (.ref l0A), some (.ref l1A), some (.ref l2A), some (.int x3), some (.int l4I)]) dX6_judgeLikeness_90 rfl (by rw [ex3]; rfl) (by decide) rfl ?_
        refine wk_goto C (tgt := 35) dX6_judgeLikeness_93 (by decide) ?_
        exact wk_forget (lv' := [some (.ref l0A), some (.ref l1A), some (.ref l2A), some (.int x3), none]) (wkLs.le ⟨rfl, rfl, rfl, rfl, trivial⟩) (ih.1 _ _ _ _ _ hW hE hl0A hl1A hl2A h)
      · rw [if_neg c2] at h
        refine wk_aload_n C dX6_judgeLikeness_52 rfl rfl ?_
        refine wk_iload_n C dX6_judgeLikeness_53 rfl rfl ?_
        refine wk_callV C hR (As := [.int l3I]) (cnt := 1) (tX9_at (l := l) hW hl2A h) rfl (wkGoodV (List.mem_of_getElem? (i := 2) rfl) (List.mem_of_getElem? (i := 3) rfl) (List.mem_of_getElem? (i := 4) rfl) (List.mem_of_getElem? (i := 5) rfl) hbX6_judgeLikeness_X9_at gdX9_at) (Nat.le_trans (by decide : 0 + 1 ≤ 2) hd) (by decide) hl2A.1 (fun cy => wAt_9 cy _ hl2A.2) rfl ⟨by decide, by decide, by decide +kernel⟩ rfl rfl (Nat.le_of_ble_eq_true rfl) (Nat.le_refl 0) (Nat.le_refl 0) dX6_judgeLikeness_54 (fun v' S5 hp => ?_)
        obtain ⟨v4, rfl, h, hWS5, hXS5⟩ := hp
        refine wk_aload_n C dX6_judgeLikeness_57 rfl rfl ?_
        refine wk_iload C dX6_judgeLikeness_58 rfl ?_
        refine wk_callV C hR (As := [.int l4I]) (cnt := 1) (tX9_at (l := l) hWS5 (hXS5 _ _ hl2A) h) rfl (wkGoodV (List.mem_of_getElem? (i := 2) rfl) (List.mem_of_getElem? (i := 3) rfl) (List.mem_of_getElem? (i := 4) rfl) (List.mem_of_getElem? (i := 5) rfl) hbX6_judgeLikeness_X9_at gdX9_at) (Nat.le_trans (by decide : 0 + 1 ≤ 2) hd) (by decide) (hXS5 _ _ hl2A).1 (fun cy => wAt_9 cy _ (hXS5 _ _ hl2A).2) rfl ⟨by decide, by decide, by decide +kernel⟩ rfl rfl (Nat.le_of_ble_eq_true rfl) (Nat.le_refl 0) (Nat.le_refl 0) dX6_judgeLikeness_60 (fun v' S10 hp => ?_)
        obtain ⟨v9, rfl, h, hWS10, hXS10⟩ := hp
        refine wk_icmp_ne C (tgt := 84) dX6_judgeLikeness_63 (by decide) (fun c14 => ?_) (fun c14 => ?_)
        · rw [if_neg c14] at h
          obtain ⟨x15, ex15, h⟩ := wkLt_some h
          refine wk_iinc C (lv' := [some (.ref l0A), some (.ref l1A), some (.ref l2A), some (.int l3I), some (.int x15)]) dX6_judgeLikeness_84 rfl (by rw [ex15]; rfl) (by decide) rfl ?_
          refine wk_goto C (tgt := 46) dX6_judgeLikeness_87 (by decide) ?_
          exact wk_forget (lv' := [some (.ref l0A), some (.ref l1A), some (.ref l2A), some (.int l3I), some (.int x15)]) (wkLs.le ⟨rfl, rfl, rfl, rfl, rfl, trivial⟩) (ih.2.1 _ _ _ _ _ _ hWS10 (wkExt.tr (wkExt.tr hE hXS5) hXS10) (hXS10 _ _ (hXS5 _ _ hl0A)) (hXS10 _ _ (hXS5 _ _ hl1A)) (hXS10 _ _ (hXS5 _ _ hl2A)) h)
        · rw [if_pos c14] at h
          refine wk_aload_n C dX6_judgeLikeness_66 rfl rfl ?_
          refine wk_get C huX6_judgeLikeness_6 (hXS10 _ _ (hXS5 _ _ hl0A)).1 (fun cy => wAt_6 cy _ (hXS10 _ _ (hXS5 _ _ hl0A)).2) rfl 2 (by decide) (List.mem_of_getElem? (i := 6) rfl) rfl (congrArg some (congrArg va_rf (wf_Machines_finals hWS10 (hXS10 _ _ (hXS5 _ _ hl0A))).1)) dX6_judgeLikeness_67 ?_
          refine wk_iload_n C dX6_judgeLikeness_70 rfl rfl ?_
          obtain ⟨i16, h⟩ := h
          refine wk_iald C (wf_Machines_finals hWS10 (hXS10 _ _ (hXS5 _ _ hl0A))).2.1 (wf_Machines_finals hWS10 (hXS10 _ _ (hXS5 _ _ hl0A))).2.2 i16 rfl dX6_judgeLikeness_71 ?_
          refine wk_aload_n C dX6_judgeLikeness_72 rfl rfl ?_
          refine wk_get C huX6_judgeLikeness_6 (hXS10 _ _ (hXS5 _ _ hl0A)).1 (fun cy => wAt_6 cy _ (hXS10 _ _ (hXS5 _ _ hl0A)).2) rfl 2 (by decide) (List.mem_of_getElem? (i := 6) rfl) rfl (congrArg some (congrArg va_rf (wf_Machines_finals hWS10 (hXS10 _ _ (hXS5 _ _ hl0A))).1)) dX6_judgeLikeness_73 ?_
          refine wk_iload C dX6_judgeLikeness_76 rfl ?_
          obtain ⟨i17, h⟩ := h
          refine wk_iald C (wf_Machines_finals hWS10 (hXS10 _ _ (hXS5 _ _ hl0A))).2.1 (wf_Machines_finals hWS10 (hXS10 _ _ (hXS5 _ _ hl0A))).2.2 i17 rfl dX6_judgeLikeness_78 ?_
          refine wk_icmp_eq C (tgt := 84) dX6_judgeLikeness_79 (by decide) (fun c18 => ?_) (fun c18 => ?_)
          · rw [if_pos c18] at h
            obtain ⟨x19, ex19, h⟩ := wkLt_some h
            refine wk_iinc C (lv' := [some (.ref l0A), some (.ref l1A), some (.ref l2A), some (.int l3I), some (.int x19)]) dX6_judgeLikeness_84 rfl (by rw [ex19]; rfl) (by decide) rfl ?_
            refine wk_goto C (tgt := 46) dX6_judgeLikeness_87 (by decide) ?_
            exact wk_forget (lv' := [some (.ref l0A), some (.ref l1A), some (.ref l2A), some (.int l3I), some (.int x19)]) (wkLs.le ⟨rfl, rfl, rfl, rfl, rfl, trivial⟩) (ih.2.1 _ _ _ _ _ _ hWS10 (wkExt.tr (wkExt.tr hE hXS5) hXS10) (hXS10 _ _ (hXS5 _ _ hl0A)) (hXS10 _ _ (hXS5 _ _ hl1A)) (hXS10 _ _ (hXS5 _ _ hl2A)) h)
          · rw [if_neg c18] at h
            refine wk_iconst C (v := 2) dX6_judgeLikeness_82 (by decide) ?_
            exact E _ _ _ _ _ _ (Nat.le_refl 0) (Nat.le_refl 0) dX6_judgeLikeness_83 ⟨(2 : Int32), rfl, h, hWS10, (wkExt.tr (wkExt.tr hE hXS5) hXS10)⟩
    · intro l0A l1A l2A l3I S hW hE hl0A hl1A hl2A h
      have h : rX6_judgeLikeness_b2 F (rX6_judgeLikeness_go F k') l0A l1A l2A l3I S Φ := by
        rw [rX6_judgeLikeness_go, if_neg (show ¬ (2 : Nat) = 0 by decide), if_neg (show ¬ (2 : Nat) = 1 by decide), if_pos (rfl : (2 : Nat) = 2)] at h
        exact h
      unfold rX6_judgeLikeness_b2 at h
      refine wk_iload_n C dX6_judgeLikeness_98 rfl rfl ?_
      refine wk_aload_n C dX6_judgeLikeness_99 rfl rfl ?_
      refine wk_get C (v := .int (gMachines_size S l0A)) huX6_judgeLikeness_6 hl0A.1 (fun cy => wAt_6 cy _ hl0A.2) rfl 7 (by decide) (List.mem_of_getElem? (i := 1) rfl) rfl rfl dX6_judgeLikeness_100 ?_
      refine wk_icmp_ge C (tgt := 154) dX6_judgeLikeness_103 (by decide) (fun c20 => ?_) (fun c20 => ?_)
      · rw [if_pos c20] at h
        refine wk_aload_n C dX6_judgeLikeness_154 rfl rfl ?_
        refine wk_iconst C (v := 0) dX6_judgeLikeness_155 (by decide) ?_
        refine wk_callV C hR (As := [.int (0 : Int32)]) (cnt := 1) (tX9_at (l := l) hW hl2A h) rfl (wkGoodV (List.mem_of_getElem? (i := 2) rfl) (List.mem_of_getElem? (i := 3) rfl) (List.mem_of_getElem? (i := 4) rfl) (List.mem_of_getElem? (i := 5) rfl) hbX6_judgeLikeness_X9_at gdX9_at) (Nat.le_trans (by decide : 0 + 1 ≤ 2) hd) (by decide) hl2A.1 (fun cy => wAt_9 cy _ hl2A.2) rfl ⟨by decide, by decide, by decide +kernel⟩ rfl rfl (Nat.le_of_ble_eq_true rfl) (Nat.le_refl 0) (Nat.le_refl 0) dX6_judgeLikeness_156 (fun v' S22 hp => ?_)
        obtain ⟨v21, rfl, h, hWS22, hXS22⟩ := hp
        refine wk_aload_n C dX6_judgeLikeness_159 rfl rfl ?_
        refine wk_aload_n C dX6_judgeLikeness_160 rfl rfl ?_
        refine wk_callV C hR (As := []) (cnt := 0) (tX3_nodeAsked (l := l) hWS22 (hXS22 _ _ hl1A) h) rfl (wkGoodV (List.mem_of_getElem? (i := 7) rfl) (List.mem_of_getElem? (i := 8) rfl) (List.mem_of_getElem? (i := 9) rfl) (List.mem_of_getElem? (i := 10) rfl) hbX6_judgeLikeness_X3_nodeAsked gdX3_nodeAsked) (Nat.le_trans (by decide : 0 + 1 ≤ 2) hd) (by decide) (hXS22 _ _ hl1A).1 (fun cy => wAt_3 cy _ (hXS22 _ _ hl1A).2) rfl ⟨by decide, by decide, by decide +kernel⟩ rfl rfl (Nat.le_of_ble_eq_true rfl) (Nat.le_refl 0) (Nat.le_refl 0) dX6_judgeLikeness_161 (fun v' S27 hp => ?_)
        obtain ⟨v26, rfl, h, hWS27, hXS27⟩ := hp
        refine wk_callV C hR (As := [.int v26]) (cnt := 1) (tX9_at (l := l) hWS27 (hXS27 _ _ (hXS22 _ _ hl2A)) h) rfl (wkGoodV (List.mem_of_getElem? (i := 2) rfl) (List.mem_of_getElem? (i := 3) rfl) (List.mem_of_getElem? (i := 4) rfl) (List.mem_of_getElem? (i := 5) rfl) hbX6_judgeLikeness_X9_at gdX9_at) (Nat.le_trans (by decide : 0 + 1 ≤ 2) hd) (by decide) (hXS27 _ _ (hXS22 _ _ hl2A)).1 (fun cy => wAt_9 cy _ (hXS27 _ _ (hXS22 _ _ hl2A)).2) rfl ⟨by decide, by decide, by decide +kernel⟩ rfl rfl (Nat.le_of_ble_eq_true rfl) (Nat.le_refl 0) (Nat.le_refl 0) dX6_judgeLikeness_164 (fun v' S32 hp => ?_)
        obtain ⟨v31, rfl, h, hWS32, hXS32⟩ := hp
        refine wk_icmp_ne C (tgt := 174) dX6_judgeLikeness_167 (by decide) (fun c36 => ?_) (fun c36 => ?_)
        · rw [if_neg c36] at h
          refine wk_iconst C (v := 4) dX6_judgeLikeness_174 (by decide) ?_
          exact E _ _ _ _ _ _ (Nat.le_refl 0) (Nat.le_refl 0) dX6_judgeLikeness_175 ⟨(4 : Int32), rfl, h, hWS32, (wkExt.tr (wkExt.tr (wkExt.tr hE hXS22) hXS27) hXS32)⟩
        · rw [if_pos c36] at h
          refine wk_iconst C (v := 0) dX6_judgeLikeness_170 (by decide) ?_
          refine wk_goto C (tgt := 175) dX6_judgeLikeness_171 (by decide) ?_
          exact E _ _ _ _ _ _ (Nat.le_refl 0) (Nat.le_refl 0) dX6_judgeLikeness_175 ⟨(0 : Int32), rfl, h, hWS32, (wkExt.tr (wkExt.tr (wkExt.tr hE hXS22) hXS27) hXS32)⟩
      · rw [if_neg c20] at h
        refine wk_iconst C (v := 0) dX6_judgeLikeness_106 (by decide) ?_
        refine wk_istore C (lv' := [some (.ref l0A), some (.ref l1A), some (.ref l2A), some (.int l3I), some (.int (0 : Int32))]) dX6_judgeLikeness_107 (by decide) rfl ?_
        exact wk_forget (lv' := [some (.ref l0A), some (.ref l1A), some (.ref l2A), some (.int l3I), some (.int (0 : Int32))]) (wkLs.le ⟨rfl, rfl, rfl, rfl, rfl, trivial⟩) (ih.2.2.2 _ _ _ _ _ _ hW hE hl0A hl1A hl2A h)
    · intro l0A l1A l2A l3I l4I S hW hE hl0A hl1A hl2A h
      have h : rX6_judgeLikeness_b3 F (rX6_judgeLikeness_go F k') l0A l1A l2A l3I l4I S Φ := by
        rw [rX6_judgeLikeness_go, if_neg (show ¬ (3 : Nat) = 0 by decide), if_neg (show ¬ (3 : Nat) = 1 by decide), if_neg (show ¬ (3 : Nat) = 2 by decide), if_pos (rfl : (3 : Nat) = 3)] at h
        exact h
      unfold rX6_judgeLikeness_b3 at h
      refine wk_iload C dX6_judgeLikeness_109 rfl ?_
      refine wk_iload_n C dX6_judgeLikeness_111 rfl rfl ?_
      refine wk_icmp_ge C (tgt := 148) dX6_judgeLikeness_112 (by decide) (fun c37 => ?_) (fun c37 => ?_)
      · rw [if_pos c37] at h
        obtain ⟨x38, ex38, h⟩ := wkLt_some h
        refine wk_iinc C (lv' := [some (.ref l0A), some (.ref l1A), some (.ref l2A), some (.int x38), some (.int l4I)]) dX6_judgeLikeness_148 rfl (by rw [ex38]; rfl) (by decide) rfl ?_
        refine wk_goto C (tgt := 98) dX6_judgeLikeness_151 (by decide) ?_
        exact wk_forget (lv' := [some (.ref l0A), some (.ref l1A), some (.ref l2A), some (.int x38), none]) (wkLs.le ⟨rfl, rfl, rfl, rfl, trivial⟩) (ih.2.2.1 _ _ _ _ _ hW hE hl0A hl1A hl2A h)
      · rw [if_neg c37] at h
        refine wk_aload_n C dX6_judgeLikeness_115 rfl rfl ?_
        refine wk_iload_n C dX6_judgeLikeness_116 rfl rfl ?_
        refine wk_callV C hR (As := [.int l3I]) (cnt := 1) (tX9_at (l := l) hW hl2A h) rfl (wkGoodV (List.mem_of_getElem? (i := 2) rfl) (List.mem_of_getElem? (i := 3) rfl) (List.mem_of_getElem? (i := 4) rfl) (List.mem_of_getElem? (i := 5) rfl) hbX6_judgeLikeness_X9_at gdX9_at) (Nat.le_trans (by decide : 0 + 1 ≤ 2) hd) (by decide) hl2A.1 (fun cy => wAt_9 cy _ hl2A.2) rfl ⟨by decide, by decide, by decide +kernel⟩ rfl rfl (Nat.le_of_ble_eq_true rfl) (Nat.le_refl 0) (Nat.le_refl 0) dX6_judgeLikeness_117 (fun v' S40 hp => ?_)
        obtain ⟨v39, rfl, h, hWS40, hXS40⟩ := hp
        refine wk_aload_n C dX6_judgeLikeness_120 rfl rfl ?_
        refine wk_iload C dX6_judgeLikeness_121 rfl ?_
        refine wk_callV C hR (As := [.int l4I]) (cnt := 1) (tX9_at (l := l) hWS40 (hXS40 _ _ hl2A) h) rfl (wkGoodV (List.mem_of_getElem? (i := 2) rfl) (List.mem_of_getElem? (i := 3) rfl) (List.mem_of_getElem? (i := 4) rfl) (List.mem_of_getElem? (i := 5) rfl) hbX6_judgeLikeness_X9_at gdX9_at) (Nat.le_trans (by decide : 0 + 1 ≤ 2) hd) (by decide) (hXS40 _ _ hl2A).1 (fun cy => wAt_9 cy _ (hXS40 _ _ hl2A).2) rfl ⟨by decide, by decide, by decide +kernel⟩ rfl rfl (Nat.le_of_ble_eq_true rfl) (Nat.le_refl 0) (Nat.le_refl 0) dX6_judgeLikeness_123 (fun v' S45 hp => ?_)
        obtain ⟨v44, rfl, h, hWS45, hXS45⟩ := hp
        refine wk_icmp_ne C (tgt := 142) dX6_judgeLikeness_126 (by decide) (fun c49 => ?_) (fun c49 => ?_)
        · rw [if_neg c49] at h
          obtain ⟨x50, ex50, h⟩ := wkLt_some h
          refine wk_iinc C (lv' := [some (.ref l0A), some (.ref l1A), some (.ref l2A), some (.int l3I), some (.int x50)]) dX6_judgeLikeness_142 rfl (by rw [ex50]; rfl) (by decide) rfl ?_
          refine wk_goto C (tgt := 109) dX6_judgeLikeness_145 (by decide) ?_
          exact wk_forget (lv' := [some (.ref l0A), some (.ref l1A), some (.ref l2A), some (.int l3I), some (.int x50)]) (wkLs.le ⟨rfl, rfl, rfl, rfl, rfl, trivial⟩) (ih.2.2.2 _ _ _ _ _ _ hWS45 (wkExt.tr (wkExt.tr hE hXS40) hXS45) (hXS45 _ _ (hXS40 _ _ hl0A)) (hXS45 _ _ (hXS40 _ _ hl1A)) (hXS45 _ _ (hXS40 _ _ hl2A)) h)
        · rw [if_pos c49] at h
          refine wk_aload_n C dX6_judgeLikeness_129 rfl rfl ?_
          refine wk_aload_n C dX6_judgeLikeness_130 rfl rfl ?_
          refine wk_iload_n C dX6_judgeLikeness_131 rfl rfl ?_
          refine wk_iload C dX6_judgeLikeness_132 rfl ?_
          refine wk_callV C hR (As := [.ref l2A, .int l3I, .int l4I]) (cnt := 3) (tX6_goAlike (l := l) hWS45 (hXS45 _ _ (hXS40 _ _ hl0A)) (hXS45 _ _ (hXS40 _ _ hl2A)) h) rfl (wkGoodV (List.mem_of_getElem? (i := 11) rfl) (List.mem_of_getElem? (i := 12) rfl) (List.mem_of_getElem? (i := 13) rfl) (List.mem_of_getElem? (i := 14) rfl) hbX6_judgeLikeness_X6_goAlike gdX6_goAlike) (Nat.le_trans (by decide : 1 + 1 ≤ 2) hd) (by decide) (hXS45 _ _ (hXS40 _ _ hl0A)).1 (fun cy => wAt_6 cy _ (hXS45 _ _ (hXS40 _ _ hl0A)).2) rfl ⟨by decide, by decide, by decide +kernel⟩ rfl rfl (Nat.le_of_ble_eq_true rfl) (Nat.le_refl 0) (Nat.le_refl 0) dX6_judgeLikeness_134 (fun v' S52 hp => ?_)
          obtain ⟨v51, rfl, h, hWS52, hXS52⟩ := hp
          refine wk_if_ne C (tgt := 142) dX6_judgeLikeness_137 (by decide) (fun c56 => ?_) (fun c56 => ?_)
          · rw [if_neg c56] at h
            obtain ⟨x57, ex57, h⟩ := wkLt_some h
            refine wk_iinc C (lv' := [some (.ref l0A), some (.ref l1A), some (.ref l2A), some (.int l3I), some (.int x57)]) dX6_judgeLikeness_142 rfl (by rw [ex57]; rfl) (by decide) rfl ?_
            refine wk_goto C (tgt := 109) dX6_judgeLikeness_145 (by decide) ?_
            exact wk_forget (lv' := [some (.ref l0A), some (.ref l1A), some (.ref l2A), some (.int l3I), some (.int x57)]) (wkLs.le ⟨rfl, rfl, rfl, rfl, rfl, trivial⟩) (ih.2.2.2 _ _ _ _ _ _ hWS52 (wkExt.tr (wkExt.tr (wkExt.tr hE hXS40) hXS45) hXS52) (hXS52 _ _ (hXS45 _ _ (hXS40 _ _ hl0A))) (hXS52 _ _ (hXS45 _ _ (hXS40 _ _ hl1A))) (hXS52 _ _ (hXS45 _ _ (hXS40 _ _ hl2A))) h)
          · rw [if_pos c56] at h
            refine wk_iconst C (v := 3) dX6_judgeLikeness_140 (by decide) ?_
            exact E _ _ _ _ _ _ (Nat.le_refl 0) (Nat.le_refl 0) dX6_judgeLikeness_141 ⟨(3 : Int32), rfl, h, hWS52, (wkExt.tr (wkExt.tr (wkExt.tr hE hXS40) hXS45) hXS52)⟩
set_option maxHeartbeats 4000000 in
set_option maxRecDepth 100000 in
theorem tX6_judgeLikeness {l : Launch} {g : wkG} {F : Nat}  {S : wPS} {l0A : Nat} {l1A : Nat} {l2A : Nat} {Φ : (Int32 → wPS → Prop)} (hW : wkWF S) (hl0A : wkIs S l0A 6) (hl1A : wkIs S l1A 3) (hl2A : wkIs S l2A 9) (h : rX6_judgeLikeness F l0A l1A l2A S Φ) : wkMet l g yX6_judgeLikeness wvX6_judgeLikeness 2 0 0 [.ref l0A, .ref l1A, .ref l2A] S (fun v' S'' => ∃ v : Int32, v' = some (.int v) ∧ Φ v S'' ∧ wkWF S'' ∧ wkExt S S'') := by
  refine wkMet_of (ret := (some .int)) (by decide) rfl (Nat.le_of_ble_eq_true rfl) (fun X hg C hR E => ?_)
  subst hg
  have hE : wkExt S S := wkExt.rf
  have hd : 2 ≤ 2 := Nat.le_refl _
  show wkGo l X 5 0 0 0 S [some (.ref l0A), some (.ref l1A), some (.ref l2A), none, none] []
  have ih := tX6_judgeLikeness_go (F := F) C hR hd E F
  have h : rX6_judgeLikeness_s F (rX6_judgeLikeness_go F F) l0A l1A l2A S Φ := h
  unfold rX6_judgeLikeness_s at h
  refine wk_aload_n C dX6_judgeLikeness_0 rfl rfl ?_
  refine wk_aload_n C dX6_judgeLikeness_1 rfl rfl ?_
  refine wk_callV C hR (As := [.ref l1A]) (cnt := 1) (tX6_loadStates (l := l) hW hl0A hl1A h) rfl (wkGoodV (List.mem_of_getElem? (i := 15) rfl) (List.mem_of_getElem? (i := 16) rfl) (List.mem_of_getElem? (i := 17) rfl) (List.mem_of_getElem? (i := 14) rfl) hbX6_judgeLikeness_X6_loadStates gdX6_loadStates) (Nat.le_trans (by decide : 1 + 1 ≤ 2) hd) (by decide) hl0A.1 (fun cy => wAt_6 cy _ hl0A.2) rfl ⟨by decide, by decide, by decide +kernel⟩ rfl rfl (Nat.le_of_ble_eq_true rfl) (Nat.le_refl 0) (Nat.le_refl 0) dX6_judgeLikeness_2 (fun v' S59 hp => ?_)
  obtain ⟨v58, rfl, h, hWS59, hXS59⟩ := hp
  refine wk_aload_n C dX6_judgeLikeness_5 rfl rfl ?_
  refine wk_get C (v := .int (gRow_count S59 l2A)) huX6_judgeLikeness_9 (hXS59 _ _ hl2A).1 (fun cy => wAt_9 cy _ (hXS59 _ _ hl2A).2) rfl 1 (by decide) (List.mem_of_getElem? (i := 18) rfl) rfl rfl dX6_judgeLikeness_6 ?_
  refine wk_aload_n C dX6_judgeLikeness_9 rfl rfl ?_
  refine wk_get C (v := .int (gMachines_size S59 l0A)) huX6_judgeLikeness_6 (hXS59 _ _ hl0A).1 (fun cy => wAt_6 cy _ (hXS59 _ _ hl0A).2) rfl 7 (by decide) (List.mem_of_getElem? (i := 1) rfl) rfl rfl dX6_judgeLikeness_10 ?_
  refine wk_icmp_ne C (tgt := 31) dX6_judgeLikeness_13 (by decide) (fun c63 => ?_) (fun c63 => ?_)
  · rw [if_neg c63] at h
    refine wk_iconst C (v := 1) dX6_judgeLikeness_31 (by decide) ?_
    exact E _ _ _ _ _ _ (Nat.le_refl 0) (Nat.le_refl 0) dX6_judgeLikeness_32 ⟨(1 : Int32), rfl, h, hWS59, (wkExt.tr hE hXS59)⟩
  · rw [if_pos c63] at h
    refine wk_aload_n C dX6_judgeLikeness_16 rfl rfl ?_
    refine wk_iconst C (v := 0) dX6_judgeLikeness_17 (by decide) ?_
    refine wk_iconst C (v := 0) dX6_judgeLikeness_18 (by decide) ?_
    refine wk_aload_n C dX6_judgeLikeness_19 rfl rfl ?_
    refine wk_get C (v := .int (gMachines_size S59 l0A)) huX6_judgeLikeness_6 (hXS59 _ _ hl0A).1 (fun cy => wAt_6 cy _ (hXS59 _ _ hl0A).2) rfl 7 (by decide) (List.mem_of_getElem? (i := 1) rfl) rfl rfl dX6_judgeLikeness_20 ?_
    refine wk_iconst C (v := 1) dX6_judgeLikeness_23 (by decide) ?_
    refine wk_isub C dX6_judgeLikeness_24 rfl ?_
    refine wk_callV C hR (As := [.int (0 : Int32), .int (0 : Int32), .int ((gMachines_size S59 l0A) - (1 : Int32))]) (cnt := 3) (tX9_liesWithin (l := l) hWS59 (hXS59 _ _ hl2A) h) rfl (wkGoodV (List.mem_of_getElem? (i := 19) rfl) (List.mem_of_getElem? (i := 20) rfl) (List.mem_of_getElem? (i := 21) rfl) (List.mem_of_getElem? (i := 5) rfl) hbX6_judgeLikeness_X9_liesWithin gdX9_liesWithin) (Nat.le_trans (by decide : 0 + 1 ≤ 2) hd) (by decide) (hXS59 _ _ hl2A).1 (fun cy => wAt_9 cy _ (hXS59 _ _ hl2A).2) rfl ⟨by decide, by decide, by decide +kernel⟩ rfl rfl (Nat.le_of_ble_eq_true rfl) (Nat.le_refl 0) (Nat.le_refl 0) dX6_judgeLikeness_25 (fun v' S65 hp => ?_)
    obtain ⟨v64, rfl, h, hWS65, hXS65⟩ := hp
    refine wk_if_ne C (tgt := 33) dX6_judgeLikeness_28 (by decide) (fun c69 => ?_) (fun c69 => ?_)
    · rw [if_neg c69] at h
      refine wk_iconst C (v := 0) dX6_judgeLikeness_33 (by decide) ?_
      refine wk_istore_n C (lv' := [some (.ref l0A), some (.ref l1A), some (.ref l2A), some (.int (0 : Int32)), none]) dX6_judgeLikeness_34 rfl (by decide) rfl ?_
      exact wk_forget (lv' := [some (.ref l0A), some (.ref l1A), some (.ref l2A), some (.int (0 : Int32)), none]) (wkLs.le ⟨rfl, rfl, rfl, rfl, trivial⟩) (ih.1 _ _ _ _ _ hWS65 (wkExt.tr (wkExt.tr hE hXS59) hXS65) (hXS65 _ _ (hXS59 _ _ hl0A)) (hXS65 _ _ (hXS59 _ _ hl1A)) (hXS65 _ _ (hXS59 _ _ hl2A)) h)
    · rw [if_pos c69] at h
      refine wk_iconst C (v := 1) dX6_judgeLikeness_31 (by decide) ?_
      exact E _ _ _ _ _ _ (Nat.le_refl 0) (Nat.le_refl 0) dX6_judgeLikeness_32 ⟨(1 : Int32), rfl, h, hWS65, (wkExt.tr (wkExt.tr hE hXS59) hXS65)⟩
