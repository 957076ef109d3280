def wvX10_rankOf : List Cond := .code yX10_rankOf cX10_rankOf 6 (some .int) :: (([.fieldLink RX10 71 "Witnessworks$Words" "size" "I"] : List Cond) ++ ((wsX100) ++ ([])))
theorem huX10_rankOf_10 : ∀ w ∈ u_ws RX10 TX10 12, w ∈ wvX10_rankOf := fun w h => List.mem_cons_of_mem _ (List.mem_append_right _ (List.mem_append_left _ h))
theorem gdX10_rankOf : ∀ w ∈ wvX10_rankOf, wkGd w := wkGdC rfl (wkGdA (wkGdL (by decide +kernel)) (wkGdA gdX10 (fun _ h => absurd h List.not_mem_nil)))
def rX10_rankOf_b0 (F : Nat) (rec : Nat → Nat → Nat → Int32 → Int32 → Int32 → Int32 → wPS → (Int32 → wPS → Prop) → Prop) (l0A : Nat) (l1A : Nat) (l2I : Int32) (l3I : Int32) (S : wPS) (Φ : (Int32 → wPS → Prop)) : Prop :=
  if (gWords_size S l0A) ≤ l3I then (Φ l2I S) else (wkLt ((l3I + (1 : Int32))) fun x2 => rec 1 l0A l1A l2I l3I (0 : Int32) x2 S Φ)
def rX10_rankOf_b1 (F : Nat) (rec : Nat → Nat → Nat → Int32 → Int32 → Int32 → Int32 → wPS → (Int32 → wPS → Prop) → Prop) (l0A : Nat) (l1A : Nat) (l2I : Int32) (l3I : Int32) (l4I : Int32) (l5I : Int32) (S : wPS) (Φ : (Int32 → wPS → Prop)) : Prop :=
  if (gWords_size S l0A) ≤ l5I then (wkLt (((l2I * ((gWords_size S l0A) - l3I)) + l4I)) fun x4 => wkLt (l3I + (1 : Int32)) fun x5 => rec 0 l0A l1A x4 x5 0 0 S Φ) else (¬ (l5I < 0 ∨ S.len l1A ≤ (l5I).toNatClampNeg) ∧ ¬ (l3I < 0 ∨ S.len l1A ≤ (l3I).toNatClampNeg) ∧ if (S.rI l1A (l3I).toNatClampNeg) ≤ (S.rI l1A (l5I).toNatClampNeg) then (wkLt (l5I + (1 : Int32)) fun x9 => rec 1 l0A l1A l2I l3I l4I x9 S Φ) else (wkLt (l4I + (1 : Int32)) fun x10 => wkLt (l5I + (1 : Int32)) fun x11 => rec 1 l0A l1A l2I l3I x10 x11 S Φ))
def rX10_rankOf_go (F : Nat) : Nat → Nat → Nat → Nat → Int32 → Int32 → Int32 → Int32 → wPS → (Int32 → wPS → Prop) → Prop
  | 0, _, _, _, _, _, _, _, _, _ => False
  | k' + 1, lab, l0A, l1A, l2I, l3I, l4I, l5I, S, Φ => if lab = 0 then rX10_rankOf_b0 F (rX10_rankOf_go F k') l0A l1A l2I l3I S Φ else if lab = 1 then rX10_rankOf_b1 F (rX10_rankOf_go F k') l0A l1A l2I l3I l4I l5I S Φ else False
def rX10_rankOf_s (F : Nat) (rec : Nat → Nat → Nat → Int32 → Int32 → Int32 → Int32 → wPS → (Int32 → wPS → Prop) → Prop) (l0A : Nat) (l1A : Nat) (S : wPS) (Φ : (Int32 → wPS → Prop)) : Prop :=
  rec 0 l0A l1A (0 : Int32) (0 : Int32) 0 0 S Φ
def rX10_rankOf (F : Nat) (l0A : Nat) (l1A : Nat) (S : wPS) (Φ : (Int32 → wPS → Prop)) : Prop := rX10_rankOf_s F (rX10_rankOf_go F F) l0A l1A S Φ
set_option maxHeartbeats 4000000 in
set_option maxRecDepth 100000 in
theorem tX10_rankOf_go {l : Launch} {X : wkX} {d F : Nat} {S0 : wPS} {Φ : (Int32 → wPS → Prop)} (C : wkC X cX10_rankOf RX10 6 wvX10_rankOf) (hR : wkRm X d 0 0) (hd : 0 ≤ d) (E : wkEnd l X cX10_rankOf 6 (some .int) 0 0 (fun v' S'' => ∃ v : Int32, v' = some (.int v) ∧ Φ v S'' ∧ wkWF S'' ∧ wkExt S0 S'')) : ∀ k' : Nat, (∀ (l0A : Nat) (l1A : Nat) (l2I : Int32) (l3I : Int32) (S : wPS), wkWF S → wkExt S0 S → wkIs S l0A 10 → wkIs S l1A 13 → rX10_rankOf_go F k' 0 l0A l1A l2I l3I 0 0 S Φ → wkGo l X 6 0 0 4 S [some (.ref l0A), some (.ref l1A), some (.int l2I), some (.int l3I), none, none] []) ∧ (∀ (l0A : Nat) (l1A : Nat) (l2I : Int32) (l3I : Int32) (l4I : Int32) (l5I : Int32) (S : wPS), wkWF S → wkExt S0 S → wkIs S l0A 10 → wkIs S l1A 13 → rX10_rankOf_go F k' 1 l0A l1A l2I l3I l4I l5I S Φ → wkGo l X 6 0 0 20 S [some (.ref l0A), some (.ref l1A), some (.int l2I), some (.int l3I), some (.int l4I), some (.int l5I)] []) := by
  intro k'
  induction k' with
  | zero => exact ⟨fun l0A l1A l2I l3I S hW hE hl0A hl1A h => h.elim, fun l0A l1A l2I l3I l4I l5I S hW hE hl0A hl1A h => h.elim⟩
  | succ k' ih =>
    refine ⟨?_, ?_⟩
    · intro l0A l1A l2I l3I S hW hE hl0A hl1A h
      have h : rX10_rankOf_b0 F (rX10_rankOf_go F k') l0A l1A l2I l3I S Φ := by
        rw [rX10_rankOf_go, if_pos (rfl : (0 : Nat) = 0)] at h
        exact h
      unfold rX10_rankOf_b0 at h
      refine wk_iload_n C dX10_rankOf_4 rfl rfl ?_
      refine wk_aload_n C dX10_rankOf_5 rfl rfl ?_
      refine wk_get C (v := .int (gWords_size S l0A)) huX10_rankOf_10 hl0A.1 (fun cy => wAt_10 cy _ hl0A.2) rfl 10 (by decide) (List.mem_of_getElem? (i := 1) rfl) rfl rfl dX10_rankOf_6 ?_
      refine wk_icmp_ge C (tgt := 66) dX10_rankOf_9 (by decide) (fun c1 => ?_) (fun c1 => ?_)
      · rw [if_pos c1] at h
        refine wk_iload_n C dX10_rankOf_66 rfl rfl ?_
        exact E _ _ _ _ _ _ (Nat.le_refl 0) (Nat.le_refl 0) dX10_rankOf_67 ⟨l2I, rfl, h, hW, hE⟩
      · rw [if_neg c1] at h
        refine wk_iconst C (v := 0) dX10_rankOf_12 (by decide) ?_
        refine wk_istore C (lv' := [some (.ref l0A), some (.ref l1A), some (.int l2I), some (.int l3I), some (.int (0 : Int32)), none]) dX10_rankOf_13 (by decide) rfl ?_
        refine wk_iload_n C dX10_rankOf_15 rfl rfl ?_
        refine wk_iconst C (v := 1) dX10_rankOf_16 (by decide) ?_
        refine wk_iadd C dX10_rankOf_17 rfl ?_
        obtain ⟨x2, ex2, h⟩ := wkLt_some h
        refine wk_topi ex2 ?_
        refine wk_istore C (lv' := [some (.ref l0A), some (.ref l1A), some (.int l2I), some (.int l3I), some (.int (0 : Int32)), some (.int x2)]) dX10_rankOf_18 (by decide) rfl ?_
        exact wk_forget (lv' := [some (.ref l0A), some (.ref l1A), some (.int l2I), some (.int l3I), some (.int (0 : Int32)), some (.int x2)]) (wkLs.le ⟨rfl, rfl, rfl, rfl, rfl, rfl, trivial⟩) (ih.2 _ _ _ _ _ _ _ hW hE hl0A hl1A h)
    · intro l0A l1A l2I l3I l4I l5I S hW hE hl0A hl1A h
      have h : rX10_rankOf_b1 F (rX10_rankOf_go F k') l0A l1A l2I l3I l4I l5I S Φ := by
        rw [rX10_rankOf_go, if_neg (show ¬ (1 : Nat) = 0 by decide), if_pos (rfl : (1 : Nat) = 1)] at h
        exact h
      unfold rX10_rankOf_b1 at h
      refine wk_iload C dX10_rankOf_20 rfl ?_
      refine wk_aload_n C dX10_rankOf_22 rfl rfl ?_
      refine wk_get C (v := .int (gWords_size S l0A)) huX10_rankOf_10 hl0A.1 (fun cy => wAt_10 cy _ hl0A.2) rfl 10 (by decide) (List.mem_of_getElem? (i := 1) rfl) rfl rfl dX10_rankOf_23 ?_
      refine wk_icmp_ge C (tgt := 48) dX10_rankOf_26 (by decide) (fun c3 => ?_) (fun c3 => ?_)
      · rw [if_pos c3] at h
        refine wk_iload_n C dX10_rankOf_48 rfl rfl ?_
        refine wk_aload_n C dX10_rankOf_49 rfl rfl ?_
        refine wk_get C (v := .int (gWords_size S l0A)) huX10_rankOf_10 hl0A.1 (fun cy => wAt_10 cy _ hl0A.2) rfl 10 (by decide) (List.mem_of_getElem? (i := 1) rfl) rfl rfl dX10_rankOf_50 ?_
        refine wk_iload_n C dX10_rankOf_53 rfl rfl ?_
        refine wk_isub C dX10_rankOf_54 rfl ?_
        refine wk_imul C dX10_rankOf_55 rfl ?_
        refine wk_iload C dX10_rankOf_56 rfl ?_
        refine wk_iadd C dX10_rankOf_58 rfl ?_
        obtain ⟨x4, ex4, h⟩ := wkLt_some h
        refine wk_topi ex4 ?_
        refine wk_istore_n C (lv' := [some (.ref l0A), some (.ref l1A), some (.int x4), some (.int l3I), some (.int l4I), some (.int l5I)]) dX10_rankOf_59 rfl (by decide) rfl ?_
        obtain ⟨x5, ex5, h⟩ := wkLt_some h
        refine wk_iinc C (lv' := [some (.ref l0A), some (.ref l1A), some (.int x4), some (.int x5), some (.int l4I), some (.int l5I)]) dX10_rankOf_60 rfl (by rw [ex5]; rfl) (by decide) rfl ?_
        refine wk_goto C (tgt := 4) dX10_rankOf_63 (by decide) ?_
        exact wk_forget (lv' := [some (.ref l0A), some (.ref l1A), some (.int x4), some (.int x5), none, none]) (wkLs.le ⟨rfl, rfl, rfl, rfl, trivial⟩) (ih.1 _ _ _ _ _ hW hE hl0A hl1A h)
      · rw [if_neg c3] at h
        refine wk_aload_n C dX10_rankOf_29 rfl rfl ?_
        refine wk_iload C dX10_rankOf_30 rfl ?_
        obtain ⟨i6, h⟩ := h
        refine wk_iald C hl1A.1 hl1A.2 i6 rfl dX10_rankOf_32 ?_
        refine wk_aload_n C dX10_rankOf_33 rfl rfl ?_
        refine wk_iload_n C dX10_rankOf_34 rfl rfl ?_
        obtain ⟨i7, h⟩ := h
        refine wk_iald C hl1A.1 hl1A.2 i7 rfl dX10_rankOf_35 ?_
        refine wk_icmp_ge C (tgt := 42) dX10_rankOf_36 (by decide) (fun c8 => ?_) (fun c8 => ?_)
        · rw [if_pos c8] at h
          obtain ⟨x9, ex9, h⟩ := wkLt_some h
          refine wk_iinc C (lv' := [some (.ref l0A), some (.ref l1A), some (.int l2I), some (.int l3I), some (.int l4I), some (.int x9)]) dX10_rankOf_42 rfl (by rw [ex9]; rfl) (by decide) rfl ?_
          refine wk_goto C (tgt := 20) dX10_rankOf_45 (by decide) ?_
          exact wk_forget (lv' := [some (.ref l0A), some (.ref l1A), some (.int l2I), some (.int l3I), some (.int l4I), some (.int x9)]) (wkLs.le ⟨rfl, rfl, rfl, rfl, rfl, rfl, trivial⟩) (ih.2 _ _ _ _ _ _ _ hW hE hl0A hl1A h)
        · rw [if_neg c8] at h
          obtain ⟨x10, ex10, h⟩ := wkLt_some h
          refine wk_iinc C (lv' := [some (.ref l0A), some (.ref l1A), some (.int l2I), some (.int l3I), some (.int x10), some (.int l5I)]) dX10_rankOf_39 rfl (by rw [ex10]; rfl) (by decide) rfl ?_
          obtain ⟨x11, ex11, h⟩ := wkLt_some h
          refine wk_iinc C (lv' := [some (.ref l0A), some (.ref l1A), some (.int l2I), some (.int l3I), some (.int x10), some (.int x11)]) dX10_rankOf_42 rfl (by rw [ex11]; rfl) (by decide) rfl ?_
          refine wk_goto C (tgt := 20) dX10_rankOf_45 (by decide) ?_
          exact wk_forget (lv' := [some (.ref l0A), some (.ref l1A), some (.int l2I), some (.int l3I), some (.int x10), some (.int x11)]) (wkLs.le ⟨rfl, rfl, rfl, rfl, rfl, rfl, trivial⟩) (ih.2 _ _ _ _ _ _ _ hW hE hl0A hl1A h)
set_option maxHeartbeats 4000000 in
set_option maxRecDepth 100000 in
theorem tX10_rankOf {l : Launch} {g : wkG} {F : Nat}  {S : wPS} {l0A : Nat} {l1A : Nat} {Φ : (Int32 → wPS → Prop)} (hW : wkWF S) (hl0A : wkIs S l0A 10) (hl1A : wkIs S l1A 13) (h : rX10_rankOf F l0A l1A S Φ) : wkMet l g yX10_rankOf wvX10_rankOf 0 0 0 [.ref l0A, .ref l1A] S (fun v' S'' => ∃ v : Int32, v' = some (.int v) ∧ Φ v S'' ∧ wkWF S'' ∧ wkExt S S'') := by
  refine wkMet_of (ret := (some .int)) (by decide) rfl (Nat.le_of_ble_eq_true rfl) (fun X hg C hR E => ?_)
  subst hg
  have hE : wkExt S S := wkExt.rf
  have hd : 0 ≤ 0 := Nat.le_refl _
  show wkGo l X 6 0 0 0 S [some (.ref l0A), some (.ref l1A), none, none, none, none] []
  have ih := tX10_rankOf_go (F := F) C hR hd E F
  have h : rX10_rankOf_s F (rX10_rankOf_go F F) l0A l1A S Φ := h
  unfold rX10_rankOf_s at h
  refine wk_iconst C (v := 0) dX10_rankOf_0 (by decide) ?_
  refine wk_istore_n C (lv' := [some (.ref l0A), some (.ref l1A), some (.int (0 : Int32)), none, none, none]) dX10_rankOf_1 rfl (by decide) rfl ?_
  refine wk_iconst C (v := 0) dX10_rankOf_2 (by decide) ?_
  refine wk_istore_n C (lv' := [some (.ref l0A), some (.ref l1A), some (.int (0 : Int32)), some (.int (0 : Int32)), none, none]) dX10_rankOf_3 rfl (by decide) rfl ?_
  exact wk_forget (lv' := [some (.ref l0A), some (.ref l1A), some (.int (0 : Int32)), some (.int (0 : Int32)), none, none]) (wkLs.le ⟨rfl, rfl, rfl, rfl, trivial⟩) (ih.1 _ _ _ _ _ hW hE hl0A hl1A h)
def wvX10_codeOf : List Cond := .code yX10_codeOf cX10_codeOf 4 (some .int) :: (([] : List Cond) ++ (([]) ++ ([])))
theorem gdX10_codeOf : ∀ w ∈ wvX10_codeOf, wkGd w := wkGdC rfl (wkGdA (wkGdL (by decide +kernel)) (wkGdA (fun _ h => absurd h List.not_mem_nil) (fun _ h => absurd h List.not_mem_nil)))
def rX10_codeOf_b0 (F : Nat) (rec : Nat → Nat → Int32 → Int32 → Int32 → wPS → (Int32 → wPS → Prop) → Prop) (l0A : Nat) (l1I : Int32) (l2I : Int32) (l3I : Int32) (S : wPS) (Φ : (Int32 → wPS → Prop)) : Prop :=
  if l1I ≤ l3I then (Φ l2I S) else (¬ (l3I < 0 ∨ S.len l0A ≤ (l3I).toNatClampNeg) ∧ wkLt (((l2I * (6 : Int32)) + (S.rI l0A (l3I).toNatClampNeg))) fun x3 => wkLt (l3I + (1 : Int32)) fun x4 => rec 0 l0A l1I x3 x4 S Φ)
def rX10_codeOf_go (F : Nat) : Nat → Nat → Nat → Int32 → Int32 → Int32 → wPS → (Int32 → wPS → Prop) → Prop
  | 0, _, _, _, _, _, _, _ => False
  | k' + 1, lab, l0A, l1I, l2I, l3I, S, Φ => if lab = 0 then rX10_codeOf_b0 F (rX10_codeOf_go F k') l0A l1I l2I l3I S Φ else False
def rX10_codeOf_s (F : Nat) (rec : Nat → Nat → Int32 → Int32 → Int32 → wPS → (Int32 → wPS → Prop) → Prop) (l0A : Nat) (l1I : Int32) (S : wPS) (Φ : (Int32 → wPS → Prop)) : Prop :=
  rec 0 l0A l1I (0 : Int32) (0 : Int32) S Φ
def rX10_codeOf (F : Nat) (l0A : Nat) (l1I : Int32) (S : wPS) (Φ : (Int32 → wPS → Prop)) : Prop := rX10_codeOf_s F (rX10_codeOf_go F F) l0A l1I S Φ
set_option maxHeartbeats 4000000 in
set_option maxRecDepth 100000 in
theorem tX10_codeOf_go {l : Launch} {X : wkX} {d F : Nat} {S0 : wPS} {Φ : (Int32 → wPS → Prop)} (C : wkC X cX10_codeOf RX10 4 wvX10_codeOf) (hR : wkRm X d 0 0) (hd : 0 ≤ d) (E : wkEnd l X cX10_codeOf 4 (some .int) 0 0 (fun v' S'' => ∃ v : Int32, v' = some (.int v) ∧ Φ v S'' ∧ wkWF S'' ∧ wkExt S0 S'')) : ∀ k' : Nat, (∀ (l0A : Nat) (l1I : Int32) (l2I : Int32) (l3I : Int32) (S : wPS), wkWF S → wkExt S0 S → wkIs S l0A 13 → rX10_codeOf_go F k' 0 l0A l1I l2I l3I S Φ → wkGo l X 4 0 0 4 S [some (.ref l0A), some (.int l1I), some (.int l2I), some (.int l3I)] []) := by
  intro k'
  induction k' with
  | zero => exact fun l0A l1I l2I l3I S hW hE hl0A h => h.elim
  | succ k' ih =>
    · intro l0A l1I l2I l3I S hW hE hl0A h
      have h : rX10_codeOf_b0 F (rX10_codeOf_go F k') l0A l1I l2I l3I S Φ := by
        rw [rX10_codeOf_go, if_pos (rfl : (0 : Nat) = 0)] at h
        exact h
      unfold rX10_codeOf_b0 at h
      refine wk_iload_n C dX10_codeOf_4 rfl rfl ?_
      refine wk_iload_n C dX10_codeOf_5 rfl rfl ?_
      refine wk_icmp_ge C (tgt := 24) dX10_codeOf_6 (by decide) (fun c1 => ?_) (fun c1 => ?_)
      · rw [if_pos c1] at h
        refine wk_iload_n C dX10_codeOf_24 rfl rfl ?_
        exact E _ _ _ _ _ _ (Nat.le_refl 0) (Nat.le_refl 0) dX10_codeOf_25 ⟨l2I, rfl, h, hW, hE⟩
      · rw [if_neg c1] at h
        refine wk_iload_n C dX10_codeOf_9 rfl rfl ?_
        refine wk_bipush C (v := 6) dX10_codeOf_10 (by decide) ?_
        refine wk_imul C dX10_codeOf_12 rfl ?_
        refine wk_aload_n C dX10_codeOf_13 rfl rfl ?_
        refine wk_iload_n C dX10_codeOf_14 rfl rfl ?_
        obtain ⟨i2, h⟩ := h
        refine wk_iald C hl0A.1 hl0A.2 i2 rfl dX10_codeOf_15 ?_
        refine wk_iadd C dX10_codeOf_16 rfl ?_
        obtain ⟨x3, ex3, h⟩ := wkLt_some h
        refine wk_topi ex3 ?_
        refine wk_istore_n C (lv' := [some (.ref l0A), some (.int l1I), some (.int x3), some (.int l3I)]) dX10_codeOf_17 rfl (by decide) rfl ?_
        obtain ⟨x4, ex4, h⟩ := wkLt_some h
        refine wk_iinc C (lv' := [some (.ref l0A), some (.int l1I), some (.int x3), some (.int x4)]) dX10_codeOf_18 rfl (by rw [ex4]; rfl) (by decide) rfl ?_
        refine wk_goto C (tgt := 4) dX10_codeOf_21 (by decide) ?_
        exact wk_forget (lv' := [some (.ref l0A), some (.int l1I), some (.int x3), some (.int x4)]) (wkLs.le ⟨rfl, rfl, rfl, rfl, trivial⟩) (ih _ _ _ _ _ hW hE hl0A h)
set_option maxHeartbeats 4000000 in
set_option maxRecDepth 100000 in
theorem tX10_codeOf {l : Launch} {g : wkG} {F : Nat}  {S : wPS} {l0A : Nat} {l1I : Int32} {Φ : (Int32 → wPS → Prop)} (hW : wkWF S) (hl0A : wkIs S l0A 13) (h : rX10_codeOf F l0A l1I S Φ) : wkMet l g yX10_codeOf wvX10_codeOf 0 0 0 [.ref l0A, .int l1I] S (fun v' S'' => ∃ v : Int32, v' = some (.int v) ∧ Φ v S'' ∧ wkWF S'' ∧ wkExt S S'') := by
  refine wkMet_of (ret := (some .int)) (by decide) rfl (Nat.le_of_ble_eq_true rfl) (fun X hg C hR E => ?_)
  subst hg
  have hE : wkExt S S := wkExt.rf
  have hd : 0 ≤ 0 := Nat.le_refl _
  show wkGo l X 4 0 0 0 S [some (.ref l0A), some (.int l1I), none, none] []
  have ih := tX10_codeOf_go (F := F) C hR hd E F
  have h : rX10_codeOf_s F (rX10_codeOf_go F F) l0A l1I S Φ := h
  unfold rX10_codeOf_s at h
  refine wk_iconst C (v := 0) dX10_codeOf_0 (by decide) ?_
  refine wk_istore_n C (lv' := [some (.ref l0A), some (.int l1I), some (.int (0 : Int32)), none]) dX10_codeOf_1 rfl (by decide) rfl ?_
  refine wk_iconst C (v := 0) dX10_codeOf_2 (by decide) ?_
  refine wk_istore_n C (lv' := [some (.ref l0A), some (.int l1I), some (.int (0 : Int32)), some (.int (0 : Int32))]) dX10_codeOf_3 rfl (by decide) rfl ?_
  exact wk_forget (lv' := [some (.ref l0A), some (.int l1I), some (.int (0 : Int32)), some (.int (0 : Int32))]) (wkLs.le ⟨rfl, rfl, rfl, rfl, trivial⟩) (ih _ _ _ _ _ hW hE hl0A h)
def wvX10_firstWord : List Cond := .code yX10_firstWord cX10_firstWord 1 (some .int) :: (([.fieldLink RX10 75 "Witnessworks$Entry" "itemCount" "I", .methodLink RX10 91 yX3_at, .instanceMethod yX3_at, .selects RX3 yX3_at yX3_at, .initialized RX3] : List Cond) ++ ((wsX30) ++ (wvX3_at)))
theorem huX10_firstWord_3 : ∀ w ∈ u_ws RX3 TX3 17, w ∈ wvX10_firstWord := fun w h => List.mem_cons_of_mem _ (List.mem_append_right _ (List.mem_append_left _ h))
theorem hbX10_firstWord_X3_at : ∀ w ∈ wvX3_at, w ∈ wvX10_firstWord := fun w h => List.mem_cons_of_mem _ (List.mem_append_right _ (List.mem_append_right _ h))
theorem gdX10_firstWord : ∀ w ∈ wvX10_firstWord, wkGd w := wkGdC rfl (wkGdA (wkGdL (by decide +kernel)) (wkGdA gdX3 gdX3_at))
def rX10_firstWord (F : Nat) (l0A : Nat) (S : wPS) (Φ : (Int32 → wPS → Prop)) : Prop :=
  if (gEntry_itemCount S l0A) ≤ 0 then (Φ (1 : Int32) S) else (rX3_at F l0A (0 : Int32) (0 : Int32) S fun v2 S3 => Φ v2 S3)
set_option maxHeartbeats 4000000 in
set_option maxRecDepth 100000 in
theorem tX10_firstWord {l : Launch} {g : wkG} {F : Nat}  {S : wPS} {l0A : Nat} {Φ : (Int32 → wPS → Prop)} (hW : wkWF S) (hl0A : wkIs S l0A 3) (h : rX10_firstWord F l0A S Φ) : wkMet l g yX10_firstWord wvX10_firstWord 1 0 0 [.ref l0A] S (fun v' S'' => ∃ v : Int32, v' = some (.int v) ∧ Φ v S'' ∧ wkWF S'' ∧ wkExt S S'') := by
  refine wkMet_of (ret := (some .int)) (by decide) rfl (Nat.le_of_ble_eq_true rfl) (fun X hg C hR E => ?_)
  subst hg
  have hE : wkExt S S := wkExt.rf
  have hd : 1 ≤ 1 := Nat.le_refl _
  show wkGo l X 1 0 0 0 S [some (.ref l0A)] []
  unfold rX10_firstWord at h
  refine wk_aload_n C dX10_firstWord_0 rfl rfl ?_
  refine wk_get C (v := .int (gEntry_itemCount S l0A)) huX10_firstWord_3 hl0A.1 (fun cy => wAt_3 cy _ hl0A.2) rfl 6 (by decide) (List.mem_of_getElem? (i := 1) rfl) rfl rfl dX10_firstWord_1 ?_
  refine wk_if_le C (tgt := 16) dX10_firstWord_4 (by decide) (fun c1 => ?_) (fun c1 => ?_)
  · rw [if_pos c1] at h
    refine wk_iconst C (v := 1) dX10_firstWord_16 (by decide) ?_
    exact E _ _ _ _ _ _ (Nat.le_refl 0) (Nat.le_refl 0) dX10_firstWord_17 ⟨(1 : Int32), rfl, h, hW, hE⟩
  · rw [if_neg c1] at h
    refine wk_aload_n C dX10_firstWord_7 rfl rfl ?_
    refine wk_iconst C (v := 0) dX10_firstWord_8 (by decide) ?_
    refine wk_iconst C (v := 0) dX10_firstWord_9 (by decide) ?_
    refine wk_callV C hR (As := [.int (0 : Int32), .int (0 : Int32)]) (cnt := 2) (tX3_at (l := l) hW hl0A h) rfl (wkGoodV (List.mem_of_getElem? (i := 2) rfl) (List.mem_of_getElem? (i := 3) rfl) (List.mem_of_getElem? (i := 4) rfl) (List.mem_of_getElem? (i := 5) rfl) hbX10_firstWord_X3_at gdX3_at) (Nat.le_trans (by decide : 0 + 1 ≤ 1) hd) (by decide) hl0A.1 (fun cy => wAt_3 cy _ hl0A.2) rfl ⟨by decide, by decide, by decide +kernel⟩ rfl rfl (Nat.le_of_ble_eq_true rfl) (Nat.le_refl 0) (Nat.le_refl 0) dX10_firstWord_10 (fun v' S3 hp => ?_)
    obtain ⟨v2, rfl, h, hWS3, hXS3⟩ := hp
    refine wk_goto C (tgt := 17) dX10_firstWord_13 (by decide) ?_
    exact E _ _ _ _ _ _ (Nat.le_refl 0) (Nat.le_refl 0) dX10_firstWord_17 ⟨v2, rfl, h, hWS3, (wkExt.tr hE hXS3)⟩
def wvX10_secondWord : List Cond := .code yX10_secondWord cX10_secondWord 1 (some .int) :: (([.fieldLink RX10 75 "Witnessworks$Entry" "itemCount" "I", .methodLink RX10 91 yX3_at, .instanceMethod yX3_at, .selects RX3 yX3_at yX3_at, .initialized RX3] : List Cond) ++ ((wsX30) ++ (wvX3_at)))
theorem huX10_secondWord_3 : ∀ w ∈ u_ws RX3 TX3 17, w ∈ wvX10_secondWord := fun w h => List.mem_cons_of_mem _ (List.mem_append_right _ (List.mem_append_left _ h))
theorem hbX10_secondWord_X3_at : ∀ w ∈ wvX3_at, w ∈ wvX10_secondWord := fun w h => List.mem_cons_of_mem _ (List.mem_append_right _ (List.mem_append_right _ h))
theorem gdX10_secondWord : ∀ w ∈ wvX10_secondWord, wkGd w := wkGdC rfl (wkGdA (wkGdL (by decide +kernel)) (wkGdA gdX3 gdX3_at))
def rX10_secondWord (F : Nat) (l0A : Nat) (S : wPS) (Φ : (Int32 → wPS → Prop)) : Prop :=
  if (gEntry_itemCount S l0A) ≤ 0 then (Φ (1 : Int32) S) else (rX3_at F l0A (0 : Int32) (1 : Int32) S fun v2 S3 => Φ v2 S3)
set_option maxHeartbeats 4000000 in
set_option maxRecDepth 100000 in
theorem tX10_secondWord {l : Launch} {g : wkG} {F : Nat}  {S : wPS} {l0A : Nat} {Φ : (Int32 → wPS → Prop)} (hW : wkWF S) (hl0A : wkIs S l0A 3) (h : rX10_secondWord F l0A S Φ) : wkMet l g yX10_secondWord wvX10_secondWord 1 0 0 [.ref l0A] S (fun v' S'' => ∃ v : Int32, v' = some (.int v) ∧ Φ v S'' ∧ wkWF S'' ∧ wkExt S S'') := by
  refine wkMet_of (ret := (some .int)) (by decide) rfl (Nat.le_of_ble_eq_true rfl) (fun X hg C hR E => ?_)
  subst hg
  have hE : wkExt S S := wkExt.rf
  have hd : 1 ≤ 1 := Nat.le_refl _
  show wkGo l X 1 0 0 0 S [some (.ref l0A)] []
  unfold rX10_secondWord at h
  refine wk_aload_n C dX10_secondWord_0 rfl rfl ?_
  refine wk_get C (v := .int (gEntry_itemCount S l0A)) huX10_secondWord_3 hl0A.1 (fun cy => wAt_3 cy _ hl0A.2) rfl 6 (by decide) (List.mem_of_getElem? (i := 1) rfl) rfl rfl dX10_secondWord_1 ?_
  refine wk_if_le C (tgt := 16) dX10_secondWord_4 (by decide) (fun c1 => ?_) (fun c1 => ?_)
  · rw [if_pos c1] at h
    refine wk_iconst C (v := 1) dX10_secondWord_16 (by decide) ?_
    exact E _ _ _ _ _ _ (Nat.le_refl 0) (Nat.le_refl 0) dX10_secondWord_17 ⟨(1 : Int32), rfl, h, hW, hE⟩
  · rw [if_neg c1] at h
    refine wk_aload_n C dX10_secondWord_7 rfl rfl ?_
    refine wk_iconst C (v := 0) dX10_secondWord_8 (by decide) ?_
    refine wk_iconst C (v := 1) dX10_secondWord_9 (by decide) ?_
    refine wk_callV C hR (As := [.int (0 : Int32), .int (1 : Int32)]) (cnt := 2) (tX3_at (l := l) hW hl0A h) rfl (wkGoodV (List.mem_of_getElem? (i := 2) rfl) (List.mem_of_getElem? (i := 3) rfl) (List.mem_of_getElem? (i := 4) rfl) (List.mem_of_getElem? (i := 5) rfl) hbX10_secondWord_X3_at gdX3_at) (Nat.le_trans (by decide : 0 + 1 ≤ 1) hd) (by decide) hl0A.1 (fun cy => wAt_3 cy _ hl0A.2) rfl ⟨by decide, by decide, by decide +kernel⟩ rfl rfl (Nat.le_of_ble_eq_true rfl) (Nat.le_refl 0) (Nat.le_refl 0) dX10_secondWord_10 (fun v' S3 hp => ?_)
    obtain ⟨v2, rfl, h, hWS3, hXS3⟩ := hp
    refine wk_goto C (tgt := 17) dX10_secondWord_13 (by decide) ?_
    exact E _ _ _ _ _ _ (Nat.le_refl 0) (Nat.le_refl 0) dX10_secondWord_17 ⟨v2, rfl, h, hWS3, (wkExt.tr hE hXS3)⟩
def wvX10_beyondWords : List Cond := .code yX10_beyondWords cX10_beyondWords 1 (some .int) :: (([.fieldLink RX10 72 "Witnessworks$Entry" "boundNow" "I"] : List Cond) ++ ((wsX30) ++ ([])))
theorem huX10_beyondWords_3 : ∀ w ∈ u_ws RX3 TX3 17, w ∈ wvX10_beyondWords := fun w h => List.mem_cons_of_mem _ (List.mem_append_right _ (List.mem_append_left _ h))
theorem gdX10_beyondWords : ∀ w ∈ wvX10_beyondWords, wkGd w := wkGdC rfl (wkGdA (wkGdL (by decide +kernel)) (wkGdA gdX3 (fun _ h => absurd h List.not_mem_nil)))
def rX10_beyondWords (F : Nat) (l0A : Nat) (S : wPS) (Φ : (Int32 → wPS → Prop)) : Prop :=
  Φ ((2 : Int32) <<< ((gEntry_boundNow S l0A) &&& 31)) S
set_option maxHeartbeats 4000000 in
set_option maxRecDepth 100000 in
theorem tX10_beyondWords {l : Launch} {g : wkG} {F : Nat}  {S : wPS} {l0A : Nat} {Φ : (Int32 → wPS → Prop)} (hW : wkWF S) (hl0A : wkIs S l0A 3) (h : rX10_beyondWords F l0A S Φ) : wkMet l g yX10_beyondWords wvX10_beyondWords 0 0 0 [.ref l0A] S (fun v' S'' => ∃ v : Int32, v' = some (.int v) ∧ Φ v S'' ∧ wkWF S'' ∧ wkExt S S'') := by
  refine wkMet_of (ret := (some .int)) (by decide) rfl (Nat.le_of_ble_eq_true rfl) (fun X hg C hR E => ?_)
  subst hg
  have hE : wkExt S S := wkExt.rf
  have hd : 0 ≤ 0 := Nat.le_refl _
  show wkGo l X 1 0 0 0 S [some (.ref l0A)] []
  unfold rX10_beyondWords at h
  refine wk_iconst C (v := 2) dX10_beyondWords_0 (by decide) ?_
  refine wk_aload_n C dX10_beyondWords_1 rfl rfl ?_
  refine wk_get C (v := .int (gEntry_boundNow S l0A)) huX10_beyondWords_3 hl0A.1 (fun cy => wAt_3 cy _ hl0A.2) rfl 8 (by decide) (List.mem_of_getElem? (i := 1) rfl) rfl rfl dX10_beyondWords_2 ?_
  refine wk_ishl C dX10_beyondWords_5 rfl ?_
  exact E _ _ _ _ _ _ (Nat.le_refl 0) (Nat.le_refl 0) dX10_beyondWords_6 ⟨((2 : Int32) <<< ((gEntry_boundNow S l0A) &&& 31)), rfl, h, hW, hE⟩
def wvX10_addNext : List Cond := .code yX10_addNext cX10_addNext 2 none :: (([.fieldLink RX10 187 "Witnessworks$Words" "nextCount" "I", .fieldLink RX10 38 "Witnessworks$Words" "next" "[I"] : List Cond) ++ ((wsX100) ++ ([])))
theorem huX10_addNext_10 : ∀ w ∈ u_ws RX10 TX10 12, w ∈ wvX10_addNext := fun w h => List.mem_cons_of_mem _ (List.mem_append_right _ (List.mem_append_left _ h))
theorem gdX10_addNext : ∀ w ∈ wvX10_addNext, wkGd w := wkGdC rfl (wkGdA (wkGdL (by decide +kernel)) (wkGdA gdX10 (fun _ h => absurd h List.not_mem_nil)))
def rX10_addNext (F : Nat) (l0A : Nat) (l1I : Int32) (S : wPS) (Φ : (Unit → wPS → Prop)) : Prop :=
  if (96 : Int32) ≤ (gWords_nextCount S l0A) then (Φ () S) else (if l1I < (1 : Int32) then (Φ () S) else (if (256 : Int32) ≤ l1I then (Φ () S) else (¬ ((gWords_nextCount S l0A) < 0 ∨ S.len (wkAd (gWords_next S l0A)) ≤ ((gWords_nextCount S l0A)).toNatClampNeg) ∧ wkLt (wuI S (wkAd (gWords_next S l0A)) (gWords_nextCount S l0A) l1I) fun S5 => wkLt (wu_Words_nextCount S5 l0A ((gWords_nextCount S5 l0A) + (1 : Int32))) fun S6 => Φ () S6)))
set_option maxHeartbeats 4000000 in
set_option maxRecDepth 100000 in
theorem tX10_addNext {l : Launch} {g : wkG} {F : Nat}  {S : wPS} {l0A : Nat} {l1I : Int32} {Φ : (Unit → wPS → Prop)} (hW : wkWF S) (hl0A : wkIs S l0A 10) (h : rX10_addNext F l0A l1I S Φ) : wkMet l g yX10_addNext wvX10_addNext 0 0 0 [.ref l0A, .int l1I] S (fun v' S'' => ∃ v : Unit, v' = none ∧ Φ v S'' ∧ wkWF S'' ∧ wkExt S S'') := by
  refine wkMet_of (ret := none) (by decide) rfl (Nat.le_of_ble_eq_true rfl) (fun X hg C hR E => ?_)
  subst hg
  have hE : wkExt S S := wkExt.rf
  have hd : 0 ≤ 0 := Nat.le_refl _
  show wkGo l X 2 0 0 0 S [some (.ref l0A), some (.int l1I)] []
  unfold rX10_addNext at h
  refine wk_aload_n C dX10_addNext_0 rfl rfl ?_
  refine wk_get C (v := .int (gWords_nextCount S l0A)) huX10_addNext_10 hl0A.1 (fun cy => wAt_10 cy _ hl0A.2) rfl 9 (by decide) (List.mem_of_getElem? (i := 1) rfl) rfl rfl dX10_addNext_1 ?_
  refine wk_bipush C (v := 96) dX10_addNext_4 (by decide) ?_
  refine wk_icmp_ge C (tgt := 41) dX10_addNext_6 (by decide) (fun c1 => ?_) (fun c1 => ?_)
  · rw [if_pos c1] at h
    exact E _ _ _ _ _ (Nat.le_refl 0) (Nat.le_refl 0) dX10_addNext_41 ⟨(), rfl, h, hW, hE⟩
  · rw [if_neg c1] at h
    refine wk_iload_n C dX10_addNext_9 rfl rfl ?_
    refine wk_iconst C (v := 1) dX10_addNext_10 (by decide) ?_
    refine wk_icmp_lt C (tgt := 41) dX10_addNext_11 (by decide) (fun c2 => ?_) (fun c2 => ?_)
    · rw [if_pos c2] at h
      exact E _ _ _ _ _ (Nat.le_refl 0) (Nat.le_refl 0) dX10_addNext_41 ⟨(), rfl, h, hW, hE⟩
    · rw [if_neg c2] at h
      refine wk_iload_n C dX10_addNext_14 rfl rfl ?_
      refine wk_sipush C (v := 256) dX10_addNext_15 (by decide) ?_
      refine wk_icmp_ge C (tgt := 41) dX10_addNext_18 (by decide) (fun c3 => ?_) (fun c3 => ?_)
      · rw [if_pos c3] at h
        exact E _ _ _ _ _ (Nat.le_refl 0) (Nat.le_refl 0) dX10_addNext_41 ⟨(), rfl, h, hW, hE⟩
      · rw [if_neg c3] at h
        refine wk_aload_n C dX10_addNext_21 rfl rfl ?_
        refine wk_get C huX10_addNext_10 hl0A.1 (fun cy => wAt_10 cy _ hl0A.2) rfl 8 (by decide) (List.mem_of_getElem? (i := 2) rfl) rfl (congrArg some (congrArg va_rf (wf_Words_next hW hl0A).1)) dX10_addNext_22 ?_
        refine wk_aload_n C dX10_addNext_25 rfl rfl ?_
        refine wk_get C (v := .int (gWords_nextCount S l0A)) huX10_addNext_10 hl0A.1 (fun cy => wAt_10 cy _ hl0A.2) rfl 9 (by decide) (List.mem_of_getElem? (i := 1) rfl) rfl rfl dX10_addNext_26 ?_
        refine wk_iload_n C dX10_addNext_29 rfl rfl ?_
        obtain ⟨i4, h⟩ := h
        obtain ⟨S5, eS5, h⟩ := wkLt_some h
        refine wk_iast C (wf_Words_next hW hl0A).2.1 (wf_Words_next hW hl0A).2.2 i4 eS5.symm dX10_addNext_30 ?_
        have hWS5 : wkWF S5 := by rw [eS5]; exact hW
        have hXS5 : wkExt S S5 := by rw [eS5]; exact wkExt.rf
        refine wk_aload_n C dX10_addNext_31 rfl rfl ?_
        refine wk_dup C dX10_addNext_32 rfl ?_
        refine wk_get C (v := .int (gWords_nextCount S5 l0A)) huX10_addNext_10 (hXS5 _ _ hl0A).1 (fun cy => wAt_10 cy _ (hXS5 _ _ hl0A).2) rfl 9 (by decide) (List.mem_of_getElem? (i := 1) rfl) rfl rfl dX10_addNext_33 ?_
        refine wk_iconst C (v := 1) dX10_addNext_36 (by decide) ?_
        refine wk_iadd C dX10_addNext_37 rfl ?_
        obtain ⟨S6, eS6, h⟩ := wkLt_some h
        refine wk_put C (S' := S6) huX10_addNext_10 (hXS5 _ _ hl0A).1 (fun cy => wAt_10 cy _ (hXS5 _ _ hl0A).2) rfl 9 (by decide) (List.mem_of_getElem? (i := 1) rfl) rfl tyX10_ok nmX10 rfl (ty := .int) rfl rfl rfl (by show 9 < 12; decide) (fun cy b => by rw [eS6]; exact wSt_10_9 cy _ (hXS5 _ _ hl0A).2 _ b) (by rw [eS6]) dX10_addNext_38 ?_
        have hWS6 : wkWF S6 := by rw [eS6]; exact hWS5
        have hXS6 : wkExt S5 S6 := by rw [eS6]; exact wkExt.rf
        exact E _ _ _ _ _ (Nat.le_refl 0) (Nat.le_refl 0) dX10_addNext_41 ⟨(), rfl, h, hWS6, (wkExt.tr (wkExt.tr hE hXS5) hXS6)⟩
def wvX10_lettersOf : List Cond := .code yX10_lettersOf cX10_lettersOf 3 (some .int) :: (([] : List Cond) ++ (([]) ++ ([])))
theorem gdX10_lettersOf : ∀ w ∈ wvX10_lettersOf, wkGd w := wkGdC rfl (wkGdA (wkGdL (by decide +kernel)) (wkGdA (fun _ h => absurd h List.not_mem_nil) (fun _ h => absurd h List.not_mem_nil)))
def rX10_lettersOf_b0 (F : Nat) (rec : Nat → Int32 → Int32 → wPS → (Int32 → wPS → Prop) → Prop) (l1I : Int32) (l2I : Int32) (S : wPS) (Φ : (Int32 → wPS → Prop)) : Prop :=
  if l2I ≤ 0 then (Φ l1I S) else (wkLt (l1I + (1 : Int32)) fun x2 => wkLt ((l2I >>> ((1 : Int32) &&& 31))) fun x3 => rec 0 x2 x3 S Φ)
def rX10_lettersOf_go (F : Nat) : Nat → Nat → Int32 → Int32 → wPS → (Int32 → wPS → Prop) → Prop
  | 0, _, _, _, _, _ => False
  | k' + 1, lab, l1I, l2I, S, Φ => if lab = 0 then rX10_lettersOf_b0 F (rX10_lettersOf_go F k') l1I l2I S Φ else False
def rX10_lettersOf_s (F : Nat) (rec : Nat → Int32 → Int32 → wPS → (Int32 → wPS → Prop) → Prop) (l0I : Int32) (S : wPS) (Φ : (Int32 → wPS → Prop)) : Prop :=
  wkLt ((l0I >>> ((1 : Int32) &&& 31))) fun x4 => rec 0 (0 : Int32) x4 S Φ
def rX10_lettersOf (F : Nat) (l0I : Int32) (S : wPS) (Φ : (Int32 → wPS → Prop)) : Prop := rX10_lettersOf_s F (rX10_lettersOf_go F F) l0I S Φ
set_option maxHeartbeats 4000000 in
set_option maxRecDepth 100000 in
theorem tX10_lettersOf_go {l : Launch} {X : wkX} {d F : Nat} {S0 : wPS} {Φ : (Int32 → wPS → Prop)} (C : wkC X cX10_lettersOf RX10 3 wvX10_lettersOf) (hR : wkRm X d 0 0) (hd : 0 ≤ d) (E : wkEnd l X cX10_lettersOf 3 (some .int) 0 0 (fun v' S'' => ∃ v : Int32, v' = some (.int v) ∧ Φ v S'' ∧ wkWF S'' ∧ wkExt S0 S'')) : ∀ k' : Nat, (∀ (l1I : Int32) (l2I : Int32) (S : wPS), wkWF S → wkExt S0 S → rX10_lettersOf_go F k' 0 l1I l2I S Φ → wkGo l X 3 0 0 6 S [none, some (.int l1I), some (.int l2I)] []) := by
  intro k'
  induction k' with
  | zero => exact fun l1I l2I S hW hE  h => h.elim
  | succ k' ih =>
    · intro l1I l2I S hW hE  h
      have h : rX10_lettersOf_b0 F (rX10_lettersOf_go F k') l1I l2I S Φ := by
        rw [rX10_lettersOf_go, if_pos (rfl : (0 : Nat) = 0)] at h
        exact h
      unfold rX10_lettersOf_b0 at h
      refine wk_iload_n C dX10_lettersOf_6 rfl rfl ?_
      refine wk_if_le C (tgt := 20) dX10_lettersOf_7 (by decide) (fun c1 => ?_) (fun c1 => ?_)
      · rw [if_pos c1] at h
        refine wk_iload_n C dX10_lettersOf_20 rfl rfl ?_
        exact E _ _ _ _ _ _ (Nat.le_refl 0) (Nat.le_refl 0) dX10_lettersOf_21 ⟨l1I, rfl, h, hW, hE⟩
      · rw [if_neg c1] at h
        obtain ⟨x2, ex2, h⟩ := wkLt_some h
        refine wk_iinc C (lv' := [none, some (.int x2), some (.int l2I)]) dX10_lettersOf_10 rfl (by rw [ex2]; rfl) (by decide) rfl ?_
        refine wk_iload_n C dX10_lettersOf_13 rfl rfl ?_
        refine wk_iconst C (v := 1) dX10_lettersOf_14 (by decide) ?_
        refine wk_ishr C dX10_lettersOf_15 rfl ?_
        obtain ⟨x3, ex3, h⟩ := wkLt_some h
        refine wk_topi ex3 ?_
        refine wk_istore_n C (lv' := [none, some (.int x2), some (.int x3)]) dX10_lettersOf_16 rfl (by decide) rfl ?_
        refine wk_goto C (tgt := 6) dX10_lettersOf_17 (by decide) ?_
        exact wk_forget (lv' := [none, some (.int x2), some (.int x3)]) (wkLs.le ⟨rfl, rfl, trivial⟩) (ih _ _ _ hW hE  h)
set_option maxHeartbeats 4000000 in
set_option maxRecDepth 100000 in
theorem tX10_lettersOf {l : Launch} {g : wkG} {F : Nat}  {S : wPS} {l0I : Int32} {Φ : (Int32 → wPS → Prop)} (hW : wkWF S)  (h : rX10_lettersOf F l0I S Φ) : wkMet l g yX10_lettersOf wvX10_lettersOf 0 0 0 [.int l0I] S (fun v' S'' => ∃ v : Int32, v' = some (.int v) ∧ Φ v S'' ∧ wkWF S'' ∧ wkExt S S'') := by
  refine wkMet_of (ret := (some .int)) (by decide) rfl (Nat.le_of_ble_eq_true rfl) (fun X hg C hR E => ?_)
  subst hg
  have hE : wkExt S S := wkExt.rf
  have hd : 0 ≤ 0 := Nat.le_refl _
  show wkGo l X 3 0 0 0 S [some (.int l0I), none, none] []
  have ih := tX10_lettersOf_go (F := F) C hR hd E F
  have h : rX10_lettersOf_s F (rX10_lettersOf_go F F) l0I S Φ := h
  unfold rX10_lettersOf_s at h
  refine wk_iconst C (v := 0) dX10_lettersOf_0 (by decide) ?_
  refine wk_istore_n C (lv' := [some (.int l0I), some (.int (0 : Int32)), none]) dX10_lettersOf_1 rfl (by decide) rfl ?_
  refine wk_iload_n C dX10_lettersOf_2 rfl rfl ?_
  refine wk_iconst C (v := 1) dX10_lettersOf_3 (by decide) ?_
  refine wk_ishr C dX10_lettersOf_4 rfl ?_
  obtain ⟨x4, ex4, h⟩ := wkLt_some h
  refine wk_topi ex4 ?_
  refine wk_istore_n C (lv' := [some (.int l0I), some (.int (0 : Int32)), some (.int x4)]) dX10_lettersOf_5 rfl (by decide) rfl ?_
  exact wk_forget (lv' := [none, some (.int (0 : Int32)), some (.int x4)]) (wkLs.le ⟨rfl, rfl, trivial⟩) (ih _ _ _ hW hE  h)
