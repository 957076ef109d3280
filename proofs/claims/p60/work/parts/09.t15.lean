def wvX8_leastDivisor : List Cond := .code yX8_leastDivisor cX8_leastDivisor 2 (some .int) :: (([] : List Cond) ++ (([]) ++ ([])))
theorem gdX8_leastDivisor : ∀ w ∈ wvX8_leastDivisor, wkGd w := wkGdC rfl (wkGdA (wkGdL (by decide +kernel)) (wkGdA (fun _ h => absurd h List.not_mem_nil) (fun _ h => absurd h List.not_mem_nil)))
def rX8_leastDivisor_b0 (F : Nat) (rec : Nat → Int32 → Int32 → wPS → (Int32 → wPS → Prop) → Prop) (l0I : Int32) (l1I : Int32) (S : wPS) (Φ : (Int32 → wPS → Prop)) : Prop :=
  ¬ l1I = 0 ∧ if (l0I / l1I) < l1I then (Φ l0I S) else (¬ l1I = 0 ∧ if (l0I - l0I / l1I * l1I) = 0 then (Φ l1I S) else (wkLt (l1I + (1 : Int32)) fun x5 => rec 0 l0I x5 S Φ))
def rX8_leastDivisor_go (F : Nat) : Nat → Nat → Int32 → Int32 → wPS → (Int32 → wPS → Prop) → Prop
  | 0, _, _, _, _, _ => False
  | k' + 1, lab, l0I, l1I, S, Φ => if lab = 0 then rX8_leastDivisor_b0 F (rX8_leastDivisor_go F k') l0I l1I S Φ else False
def rX8_leastDivisor_s (F : Nat) (rec : Nat → Int32 → Int32 → wPS → (Int32 → wPS → Prop) → Prop) (l0I : Int32) (S : wPS) (Φ : (Int32 → wPS → Prop)) : Prop :=
  rec 0 l0I (2 : Int32) S Φ
def rX8_leastDivisor (F : Nat) (l0I : Int32) (S : wPS) (Φ : (Int32 → wPS → Prop)) : Prop := rX8_leastDivisor_s F (rX8_leastDivisor_go F F) l0I S Φ
set_option maxHeartbeats 4000000 in
set_option maxRecDepth 100000 in
theorem tX8_leastDivisor_go {l : Launch} {X : wkX} {d F : Nat} {S0 : wPS} {Φ : (Int32 → wPS → Prop)} (C : wkC X cX8_leastDivisor RX8 2 wvX8_leastDivisor) (hR : wkRm X d 0 0) (hd : 0 ≤ d) (E : wkEnd l X cX8_leastDivisor 2 (some .int) 0 0 (fun v' S'' => ∃ v : Int32, v' = some (.int v) ∧ Φ v S'' ∧ wkWF S'' ∧ wkExt S0 S'')) : ∀ k' : Nat, (∀ (l0I : Int32) (l1I : Int32) (S : wPS), wkWF S → wkExt S0 S → rX8_leastDivisor_go F k' 0 l0I l1I S Φ → wkGo l X 2 0 0 2 S [some (.int l0I), some (.int l1I)] []) := by
  intro k'
  induction k' with
  | zero => exact fun l0I l1I S hW hE  h => h.elim
  | succ k' ih =>
    · intro l0I l1I S hW hE  h
      have h : rX8_leastDivisor_b0 F (rX8_leastDivisor_go F k') l0I l1I S Φ := by
        rw [rX8_leastDivisor_go, if_pos (rfl : (0 : Nat) = 0)] at h
        exact h
      unfold rX8_leastDivisor_b0 at h
      refine wk_iload_n C dX8_leastDivisor_2 rfl rfl ?_
      refine wk_iload_n C dX8_leastDivisor_3 rfl rfl ?_
      refine wk_iload_n C dX8_leastDivisor_4 rfl rfl ?_
      obtain ⟨z1, h⟩ := h
      refine wk_idiv C dX8_leastDivisor_5 z1 rfl ?_
      refine wk_icmp_gt C (tgt := 23) dX8_leastDivisor_6 (by decide) (fun c2 => ?_) (fun c2 => ?_)
      · rw [if_pos c2] at h
        refine wk_iload_n C dX8_leastDivisor_23 rfl rfl ?_
        exact E _ _ _ _ _ _ (Nat.le_refl 0) (Nat.le_refl 0) dX8_leastDivisor_24 ⟨l0I, rfl, h, hW, hE⟩
      · rw [if_neg c2] at h
        refine wk_iload_n C dX8_leastDivisor_9 rfl rfl ?_
        refine wk_iload_n C dX8_leastDivisor_10 rfl rfl ?_
        obtain ⟨z3, h⟩ := h
        refine wk_irem C dX8_leastDivisor_11 z3 rfl ?_
        refine wk_if_ne C (tgt := 17) dX8_leastDivisor_12 (by decide) (fun c4 => ?_) (fun c4 => ?_)
        · rw [if_neg c4] at h
          obtain ⟨x5, ex5, h⟩ := wkLt_some h
          refine wk_iinc C (lv' := [some (.int l0I), some (.int x5)]) dX8_leastDivisor_17 rfl (by rw [ex5]; rfl) (by decide) rfl ?_
          refine wk_goto C (tgt := 2) dX8_leastDivisor_20 (by decide) ?_
          exact wk_forget (lv' := [some (.int l0I), some (.int x5)]) (wkLs.le ⟨rfl, rfl, trivial⟩) (ih _ _ _ hW hE  h)
        · rw [if_pos c4] at h
          refine wk_iload_n C dX8_leastDivisor_15 rfl rfl ?_
          exact E _ _ _ _ _ _ (Nat.le_refl 0) (Nat.le_refl 0) dX8_leastDivisor_16 ⟨l1I, rfl, h, hW, hE⟩
set_option maxHeartbeats 4000000 in
set_option maxRecDepth 100000 in
theorem tX8_leastDivisor {l : Launch} {g : wkG} {F : Nat}  {S : wPS} {l0I : Int32} {Φ : (Int32 → wPS → Prop)} (hW : wkWF S)  (h : rX8_leastDivisor F l0I S Φ) : wkMet l g yX8_leastDivisor wvX8_leastDivisor 0 0 0 [.int l0I] S (fun v' S'' => ∃ v : Int32, v' = some (.int v) ∧ Φ v S'' ∧ wkWF S'' ∧ wkExt S S'') := by
  refine wkMet_of (ret := (some .int)) (by decide) rfl (Nat.le_of_ble_eq_true rfl) (fun X hg C hR E => ?_)
  subst hg
  have hE : wkExt S S := wkExt.rf
  have hd : 0 ≤ 0 := Nat.le_refl _
  show wkGo l X 2 0 0 0 S [some (.int l0I), none] []
  have ih := tX8_leastDivisor_go (F := F) C hR hd E F
  have h : rX8_leastDivisor_s F (rX8_leastDivisor_go F F) l0I S Φ := h
  unfold rX8_leastDivisor_s at h
  refine wk_iconst C (v := 2) dX8_leastDivisor_0 (by decide) ?_
  refine wk_istore_n C (lv' := [some (.int l0I), some (.int (2 : Int32))]) dX8_leastDivisor_1 rfl (by decide) rfl ?_
  exact wk_forget (lv' := [some (.int l0I), some (.int (2 : Int32))]) (wkLs.le ⟨rfl, rfl, trivial⟩) (ih _ _ _ hW hE  h)
def wvX8_withoutDivisor : List Cond := .code yX8_withoutDivisor cX8_withoutDivisor 4 (some .int) :: (([] : List Cond) ++ (([]) ++ ([])))
theorem gdX8_withoutDivisor : ∀ w ∈ wvX8_withoutDivisor, wkGd w := wkGdC rfl (wkGdA (wkGdL (by decide +kernel)) (wkGdA (fun _ h => absurd h List.not_mem_nil) (fun _ h => absurd h List.not_mem_nil)))
def rX8_withoutDivisor_b0 (F : Nat) (rec : Nat → Int32 → Int32 → Int32 → wPS → (Int32 → wPS → Prop) → Prop) (l1I : Int32) (l2I : Int32) (l3I : Int32) (S : wPS) (Φ : (Int32 → wPS → Prop)) : Prop :=
  if (32 : Int32) ≤ l3I then (Φ l2I S) else (if l1I ≤ (1 : Int32) then (Φ l2I S) else (if l2I ≤ (1 : Int32) then (Φ l2I S) else (¬ l1I = 0 ∧ if (l2I - l2I / l1I * l1I) = 0 then (¬ l1I = 0 ∧ wkLt ((l2I / l1I)) fun x7 => wkLt (l3I + (1 : Int32)) fun x8 => rec 0 l1I x7 x8 S Φ) else (Φ l2I S))))
def rX8_withoutDivisor_go (F : Nat) : Nat → Nat → Int32 → Int32 → Int32 → wPS → (Int32 → wPS → Prop) → Prop
  | 0, _, _, _, _, _, _ => False
  | k' + 1, lab, l1I, l2I, l3I, S, Φ => if lab = 0 then rX8_withoutDivisor_b0 F (rX8_withoutDivisor_go F k') l1I l2I l3I S Φ else False
def rX8_withoutDivisor_s (F : Nat) (rec : Nat → Int32 → Int32 → Int32 → wPS → (Int32 → wPS → Prop) → Prop) (l0I : Int32) (l1I : Int32) (S : wPS) (Φ : (Int32 → wPS → Prop)) : Prop :=
  rec 0 l1I l0I (0 : Int32) S Φ
def rX8_withoutDivisor (F : Nat) (l0I : Int32) (l1I : Int32) (S : wPS) (Φ : (Int32 → wPS → Prop)) : Prop := rX8_withoutDivisor_s F (rX8_withoutDivisor_go F F) l0I l1I S Φ
set_option maxHeartbeats 4000000 in
set_option maxRecDepth 100000 in
theorem tX8_withoutDivisor_go {l : Launch} {X : wkX} {d F : Nat} {S0 : wPS} {Φ : (Int32 → wPS → Prop)} (C : wkC X cX8_withoutDivisor RX8 4 wvX8_withoutDivisor) (hR : wkRm X d 0 0) (hd : 0 ≤ d) (E : wkEnd l X cX8_withoutDivisor 4 (some .int) 0 0 (fun v' S'' => ∃ v : Int32, v' = some (.int v) ∧ Φ v S'' ∧ wkWF S'' ∧ wkExt S0 S'')) : ∀ k' : Nat, (∀ (l1I : Int32) (l2I : Int32) (l3I : Int32) (S : wPS), wkWF S → wkExt S0 S → rX8_withoutDivisor_go F k' 0 l1I l2I l3I S Φ → wkGo l X 4 0 0 4 S [none, some (.int l1I), some (.int l2I), some (.int l3I)] []) := by
  intro k'
  induction k' with
  | zero => exact fun l1I l2I l3I S hW hE  h => h.elim
  | succ k' ih =>
    · intro l1I l2I l3I S hW hE  h
      have h : rX8_withoutDivisor_b0 F (rX8_withoutDivisor_go F k') l1I l2I l3I S Φ := by
        rw [rX8_withoutDivisor_go, if_pos (rfl : (0 : Nat) = 0)] at h
        exact h
      unfold rX8_withoutDivisor_b0 at h
      refine wk_iload_n C dX8_withoutDivisor_4 rfl rfl ?_
      refine wk_bipush C (v := 32) dX8_withoutDivisor_5 (by decide) ?_
      refine wk_icmp_ge C (tgt := 36) dX8_withoutDivisor_7 (by decide) (fun c1 => ?_) (fun c1 => ?_)
      · rw [if_pos c1] at h
        refine wk_iload_n C dX8_withoutDivisor_36 rfl rfl ?_
        exact E _ _ _ _ _ _ (Nat.le_refl 0) (Nat.le_refl 0) dX8_withoutDivisor_37 ⟨l2I, rfl, h, hW, hE⟩
      · rw [if_neg c1] at h
        refine wk_iload_n C dX8_withoutDivisor_10 rfl rfl ?_
        refine wk_iconst C (v := 1) dX8_withoutDivisor_11 (by decide) ?_
        refine wk_icmp_le C (tgt := 36) dX8_withoutDivisor_12 (by decide) (fun c2 => ?_) (fun c2 => ?_)
        · rw [if_pos c2] at h
          refine wk_iload_n C dX8_withoutDivisor_36 rfl rfl ?_
          exact E _ _ _ _ _ _ (Nat.le_refl 0) (Nat.le_refl 0) dX8_withoutDivisor_37 ⟨l2I, rfl, h, hW, hE⟩
        · rw [if_neg c2] at h
          refine wk_iload_n C dX8_withoutDivisor_15 rfl rfl ?_
          refine wk_iconst C (v := 1) dX8_withoutDivisor_16 (by decide) ?_
          refine wk_icmp_le C (tgt := 36) dX8_withoutDivisor_17 (by decide) (fun c3 => ?_) (fun c3 => ?_)
          · rw [if_pos c3] at h
            refine wk_iload_n C dX8_withoutDivisor_36 rfl rfl ?_
            exact E _ _ _ _ _ _ (Nat.le_refl 0) (Nat.le_refl 0) dX8_withoutDivisor_37 ⟨l2I, rfl, h, hW, hE⟩
          · rw [if_neg c3] at h
            refine wk_iload_n C dX8_withoutDivisor_20 rfl rfl ?_
            refine wk_iload_n C dX8_withoutDivisor_21 rfl rfl ?_
            obtain ⟨z4, h⟩ := h
            refine wk_irem C dX8_withoutDivisor_22 z4 rfl ?_
            refine wk_if_ne C (tgt := 36) dX8_withoutDivisor_23 (by decide) (fun c5 => ?_) (fun c5 => ?_)
            · rw [if_neg c5] at h
              refine wk_iload_n C dX8_withoutDivisor_36 rfl rfl ?_
              exact E _ _ _ _ _ _ (Nat.le_refl 0) (Nat.le_refl 0) dX8_withoutDivisor_37 ⟨l2I, rfl, h, hW, hE⟩
            · rw [if_pos c5] at h
              refine wk_iload_n C dX8_withoutDivisor_26 rfl rfl ?_
              refine wk_iload_n C dX8_withoutDivisor_27 rfl rfl ?_
              obtain ⟨z6, h⟩ := h
              refine wk_idiv C dX8_withoutDivisor_28 z6 rfl ?_
              obtain ⟨x7, ex7, h⟩ := wkLt_some h
              refine wk_topi ex7 ?_
              refine wk_istore_n C (lv' := [none, some (.int l1I), some (.int x7), some (.int l3I)]) dX8_withoutDivisor_29 rfl (by decide) rfl ?_
              obtain ⟨x8, ex8, h⟩ := wkLt_some h
              refine wk_iinc C (lv' := [none, some (.int l1I), some (.int x7), some (.int x8)]) dX8_withoutDivisor_30 rfl (by rw [ex8]; rfl) (by decide) rfl ?_
              refine wk_goto C (tgt := 4) dX8_withoutDivisor_33 (by decide) ?_
              exact wk_forget (lv' := [none, some (.int l1I), some (.int x7), some (.int x8)]) (wkLs.le ⟨rfl, rfl, rfl, trivial⟩) (ih _ _ _ _ hW hE  h)
set_option maxHeartbeats 4000000 in
set_option maxRecDepth 100000 in
theorem tX8_withoutDivisor {l : Launch} {g : wkG} {F : Nat}  {S : wPS} {l0I : Int32} {l1I : Int32} {Φ : (Int32 → wPS → Prop)} (hW : wkWF S)  (h : rX8_withoutDivisor F l0I l1I S Φ) : wkMet l g yX8_withoutDivisor wvX8_withoutDivisor 0 0 0 [.int l0I, .int l1I] S (fun v' S'' => ∃ v : Int32, v' = some (.int v) ∧ Φ v S'' ∧ wkWF S'' ∧ wkExt S S'') := by
  refine wkMet_of (ret := (some .int)) (by decide) rfl (Nat.le_of_ble_eq_true rfl) (fun X hg C hR E => ?_)
  subst hg
  have hE : wkExt S S := wkExt.rf
  have hd : 0 ≤ 0 := Nat.le_refl _
  show wkGo l X 4 0 0 0 S [some (.int l0I), some (.int l1I), none, none] []
  have ih := tX8_withoutDivisor_go (F := F) C hR hd E F
  have h : rX8_withoutDivisor_s F (rX8_withoutDivisor_go F F) l0I l1I S Φ := h
  unfold rX8_withoutDivisor_s at h
  refine wk_iload_n C dX8_withoutDivisor_0 rfl rfl ?_
  refine wk_istore_n C (lv' := [some (.int l0I), some (.int l1I), some (.int l0I), none]) dX8_withoutDivisor_1 rfl (by decide) rfl ?_
  refine wk_iconst C (v := 0) dX8_withoutDivisor_2 (by decide) ?_
  refine wk_istore_n C (lv' := [some (.int l0I), some (.int l1I), some (.int l0I), some (.int (0 : Int32))]) dX8_withoutDivisor_3 rfl (by decide) rfl ?_
  exact wk_forget (lv' := [none, some (.int l1I), some (.int l0I), some (.int (0 : Int32))]) (wkLs.le ⟨rfl, rfl, rfl, trivial⟩) (ih _ _ _ _ hW hE  h)
def wvX8_degreeOf : List Cond := .code yX8_degreeOf cX8_degreeOf 3 (some .int) :: (([] : List Cond) ++ (([]) ++ ([])))
theorem gdX8_degreeOf : ∀ w ∈ wvX8_degreeOf, wkGd w := wkGdC rfl (wkGdA (wkGdL (by decide +kernel)) (wkGdA (fun _ h => absurd h List.not_mem_nil) (fun _ h => absurd h List.not_mem_nil)))
def rX8_degreeOf_b0 (F : Nat) (rec : Nat → Nat → Int32 → Int32 → wPS → (Int32 → wPS → Prop) → Prop) (l0A : Nat) (l1I : Int32) (l2I : Int32) (S : wPS) (Φ : (Int32 → wPS → Prop)) : Prop :=
  if (Int32.ofNat (S.len l0A)) ≤ l2I then (Φ l1I S) else (¬ (l2I < 0 ∨ S.len l0A ≤ (l2I).toNatClampNeg) ∧ if (lg_cmp (S.rJ l0A (l2I).toNatClampNeg) (0 : Int64)) = 0 then (wkLt (l2I + (1 : Int32)) fun x4 => rec 0 l0A l1I x4 S Φ) else (wkLt (l2I + (1 : Int32)) fun x5 => rec 0 l0A l2I x5 S Φ))
def rX8_degreeOf_go (F : Nat) : Nat → Nat → Nat → Int32 → Int32 → wPS → (Int32 → wPS → Prop) → Prop
  | 0, _, _, _, _, _, _ => False
  | k' + 1, lab, l0A, l1I, l2I, S, Φ => if lab = 0 then rX8_degreeOf_b0 F (rX8_degreeOf_go F k') l0A l1I l2I S Φ else False
def rX8_degreeOf_s (F : Nat) (rec : Nat → Nat → Int32 → Int32 → wPS → (Int32 → wPS → Prop) → Prop) (l0A : Nat) (S : wPS) (Φ : (Int32 → wPS → Prop)) : Prop :=
  rec 0 l0A (-1 : Int32) (0 : Int32) S Φ
def rX8_degreeOf (F : Nat) (l0A : Nat) (S : wPS) (Φ : (Int32 → wPS → Prop)) : Prop := rX8_degreeOf_s F (rX8_degreeOf_go F F) l0A S Φ
set_option maxHeartbeats 4000000 in
set_option maxRecDepth 100000 in
theorem tX8_degreeOf_go {l : Launch} {X : wkX} {d F : Nat} {S0 : wPS} {Φ : (Int32 → wPS → Prop)} (C : wkC X cX8_degreeOf RX8 3 wvX8_degreeOf) (hR : wkRm X d 0 0) (hd : 0 ≤ d) (E : wkEnd l X cX8_degreeOf 3 (some .int) 0 0 (fun v' S'' => ∃ v : Int32, v' = some (.int v) ∧ Φ v S'' ∧ wkWF S'' ∧ wkExt S0 S'')) : ∀ k' : Nat, (∀ (l0A : Nat) (l1I : Int32) (l2I : Int32) (S : wPS), wkWF S → wkExt S0 S → wkIs S l0A 14 → rX8_degreeOf_go F k' 0 l0A l1I l2I S Φ → wkGo l X 3 0 0 4 S [some (.ref l0A), some (.int l1I), some (.int l2I)] []) := by
  intro k'
  induction k' with
  | zero => exact fun l0A l1I l2I S hW hE hl0A h => h.elim
  | succ k' ih =>
    · intro l0A l1I l2I S hW hE hl0A h
      have h : rX8_degreeOf_b0 F (rX8_degreeOf_go F k') l0A l1I l2I S Φ := by
        rw [rX8_degreeOf_go, if_pos (rfl : (0 : Nat) = 0)] at h
        exact h
      unfold rX8_degreeOf_b0 at h
      refine wk_iload_n C dX8_degreeOf_4 rfl rfl ?_
      refine wk_aload_n C dX8_degreeOf_5 rfl rfl ?_
      refine wk_llen C hl0A.1 hl0A.2 rfl dX8_degreeOf_6 ?_
      refine wk_icmp_ge C (tgt := 26) dX8_degreeOf_7 (by decide) (fun c1 => ?_) (fun c1 => ?_)
      · rw [if_pos c1] at h
        refine wk_iload_n C dX8_degreeOf_26 rfl rfl ?_
        exact E _ _ _ _ _ _ (Nat.le_refl 0) (Nat.le_refl 0) dX8_degreeOf_27 ⟨l1I, rfl, h, hW, hE⟩
      · rw [if_neg c1] at h
        refine wk_aload_n C dX8_degreeOf_10 rfl rfl ?_
        refine wk_iload_n C dX8_degreeOf_11 rfl rfl ?_
        obtain ⟨i2, h⟩ := h
        refine wk_lald C hl0A.1 hl0A.2 i2 rfl dX8_degreeOf_12 ?_
        refine wk_lconst C (v := 0) dX8_degreeOf_13 (by decide) ?_
        refine wk_lcmp C dX8_degreeOf_14 rfl ?_
        refine wk_if_eq C (tgt := 20) dX8_degreeOf_15 (by decide) (fun c3 => ?_) (fun c3 => ?_)
        · rw [if_pos c3] at h
          obtain ⟨x4, ex4, h⟩ := wkLt_some h
          refine wk_iinc C (lv' := [some (.ref l0A), some (.int l1I), some (.int x4)]) dX8_degreeOf_20 rfl (by rw [ex4]; rfl) (by decide) rfl ?_
          refine wk_goto C (tgt := 4) dX8_degreeOf_23 (by decide) ?_
          exact wk_forget (lv' := [some (.ref l0A), some (.int l1I), some (.int x4)]) (wkLs.le ⟨rfl, rfl, rfl, trivial⟩) (ih _ _ _ _ hW hE hl0A h)
        · rw [if_neg c3] at h
          refine wk_iload_n C dX8_degreeOf_18 rfl rfl ?_
          refine wk_istore_n C (lv' := [some (.ref l0A), some (.int l2I), some (.int l2I)]) dX8_degreeOf_19 rfl (by decide) rfl ?_
          obtain ⟨x5, ex5, h⟩ := wkLt_some h
          refine wk_iinc C (lv' := [some (.ref l0A), some (.int l2I), some (.int x5)]) dX8_degreeOf_20 rfl (by rw [ex5]; rfl) (by decide) rfl ?_
          refine wk_goto C (tgt := 4) dX8_degreeOf_23 (by decide) ?_
          exact wk_forget (lv' := [some (.ref l0A), some (.int l2I), some (.int x5)]) (wkLs.le ⟨rfl, rfl, rfl, trivial⟩) (ih _ _ _ _ hW hE hl0A h)
set_option maxHeartbeats 4000000 in
set_option maxRecDepth 100000 in
theorem tX8_degreeOf {l : Launch} {g : wkG} {F : Nat}  {S : wPS} {l0A : Nat} {Φ : (Int32 → wPS → Prop)} (hW : wkWF S) (hl0A : wkIs S l0A 14) (h : rX8_degreeOf F l0A S Φ) : wkMet l g yX8_degreeOf wvX8_degreeOf 0 0 0 [.ref l0A] S (fun v' S'' => ∃ v : Int32, v' = some (.int v) ∧ Φ v S'' ∧ wkWF S'' ∧ wkExt S S'') := by
  refine wkMet_of (ret := (some .int)) (by decide) rfl (Nat.le_of_ble_eq_true rfl) (fun X hg C hR E => ?_)
  subst hg
  have hE : wkExt S S := wkExt.rf
  have hd : 0 ≤ 0 := Nat.le_refl _
  show wkGo l X 3 0 0 0 S [some (.ref l0A), none, none] []
  have ih := tX8_degreeOf_go (F := F) C hR hd E F
  have h : rX8_degreeOf_s F (rX8_degreeOf_go F F) l0A S Φ := h
  unfold rX8_degreeOf_s at h
  refine wk_iconst C (v := (-1)) dX8_degreeOf_0 (by decide) ?_
  refine wk_istore_n C (lv' := [some (.ref l0A), some (.int (-1 : Int32)), none]) dX8_degreeOf_1 rfl (by decide) rfl ?_
  refine wk_iconst C (v := 0) dX8_degreeOf_2 (by decide) ?_
  refine wk_istore_n C (lv' := [some (.ref l0A), some (.int (-1 : Int32)), some (.int (0 : Int32))]) dX8_degreeOf_3 rfl (by decide) rfl ?_
  exact wk_forget (lv' := [some (.ref l0A), some (.int (-1 : Int32)), some (.int (0 : Int32))]) (wkLs.le ⟨rfl, rfl, rfl, trivial⟩) (ih _ _ _ _ hW hE hl0A h)
def wvX8_senseAt : List Cond := .code yX8_senseAt cX8_senseAt 14 (some .int) :: (([.fieldLink RX8 26 "Witnessworks$Numbers" "degrees" "[I", .fieldLink RX8 23 "Witnessworks$Numbers" "chain" "[[J", .constantLong RX8 222 (2), .constantLong RX8 218 (16), .constantLong RX8 220 (8)] : List Cond) ++ ((wsX80) ++ ([])))
theorem huX8_senseAt_8 : ∀ w ∈ u_ws RX8 TX8 9, w ∈ wvX8_senseAt := fun w h => List.mem_cons_of_mem _ (List.mem_append_right _ (List.mem_append_left _ h))
theorem gdX8_senseAt : ∀ w ∈ wvX8_senseAt, wkGd w := wkGdC rfl (wkGdA (wkGdL (by decide +kernel)) (wkGdA gdX8 (fun _ h => absurd h List.not_mem_nil)))
def rX8_senseAt_b0 (F : Nat) (rec : Nat → Nat → Int64 → Int32 → Int32 → Int32 → Int64 → Int64 → Int32 → Int64 → wPS → (Int32 → wPS → Prop) → Prop) (l0A : Nat) (l1I : Int32) (l2I : Int32) (l4J : Int64) (l6J : Int64) (l8I : Int32) (S : wPS) (Φ : (Int32 → wPS → Prop)) : Prop :=
  if l2I ≤ l8I then (¬ (l1I < 0 ∨ S.len (wkAd (gNumbers_degrees S l0A)) ≤ (l1I).toNatClampNeg) ∧ wkLt ((S.rI (wkAd (gNumbers_degrees S l0A)) (l1I).toNatClampNeg)) fun x3 => ¬ (l1I < 0 ∨ S.len (wkAd (gNumbers_chain S l0A)) ≤ (l1I).toNatClampNeg) ∧ ¬ (x3 < 0 ∨ S.len (wkAd (S.rA (wkAd (gNumbers_chain S l0A)) (l1I).toNatClampNeg)) ≤ (x3).toNatClampNeg) ∧ wkLt ((S.rJ (wkAd (S.rA (wkAd (gNumbers_chain S l0A)) (l1I).toNatClampNeg)) (x3).toNatClampNeg)) fun x7 => wkLt ((x3 - (1 : Int32))) fun x8 => rec 1 l0A (1 : Int64) x8 l1I 0 l4J l6J 0 x7 S Φ) else (if (lg_cmp (l4J - l4J / (2 : Int64) * (2 : Int64)) (0 : Int64)) = 0 then (if (lg_cmp l6J (1 : Int64)) ≤ 0 then (¬ (l1I < 0 ∨ S.len (wkAd (gNumbers_degrees S l0A)) ≤ (l1I).toNatClampNeg) ∧ wkLt ((S.rI (wkAd (gNumbers_degrees S l0A)) (l1I).toNatClampNeg)) fun x19 => ¬ (l1I < 0 ∨ S.len (wkAd (gNumbers_chain S l0A)) ≤ (l1I).toNatClampNeg) ∧ ¬ (x19 < 0 ∨ S.len (wkAd (S.rA (wkAd (gNumbers_chain S l0A)) (l1I).toNatClampNeg)) ≤ (x19).toNatClampNeg) ∧ wkLt ((S.rJ (wkAd (S.rA (wkAd (gNumbers_chain S l0A)) (l1I).toNatClampNeg)) (x19).toNatClampNeg)) fun x23 => wkLt ((x19 - (1 : Int32))) fun x24 => rec 1 l0A (1 : Int64) x24 l1I 0 l4J l6J 0 x23 S Φ) else (wkLt ((l4J / (2 : Int64))) fun x25 => wkLt ((l6J / (2 : Int64))) fun x26 => wkLt (l8I + (1 : Int32)) fun x27 => rec 0 l0A 0 0 l1I l2I x25 x26 x27 0 S Φ)) else (¬ (l1I < 0 ∨ S.len (wkAd (gNumbers_degrees S l0A)) ≤ (l1I).toNatClampNeg) ∧ wkLt ((S.rI (wkAd (gNumbers_degrees S l0A)) (l1I).toNatClampNeg)) fun x11 => ¬ (l1I < 0 ∨ S.len (wkAd (gNumbers_chain S l0A)) ≤ (l1I).toNatClampNeg) ∧ ¬ (x11 < 0 ∨ S.len (wkAd (S.rA (wkAd (gNumbers_chain S l0A)) (l1I).toNatClampNeg)) ≤ (x11).toNatClampNeg) ∧ wkLt ((S.rJ (wkAd (S.rA (wkAd (gNumbers_chain S l0A)) (l1I).toNatClampNeg)) (x11).toNatClampNeg)) fun x15 => wkLt ((x11 - (1 : Int32))) fun x16 => rec 1 l0A (1 : Int64) x16 l1I 0 l4J l6J 0 x15 S Φ))
def rX8_senseAt_b1 (F : Nat) (rec : Nat → Nat → Int64 → Int32 → Int32 → Int32 → Int64 → Int64 → Int32 → Int64 → wPS → (Int32 → wPS → Prop) → Prop) (l0A : Nat) (l1I : Int32) (l4J : Int64) (l6J : Int64) (l9J : Int64) (l11J : Int64) (l13I : Int32) (S : wPS) (Φ : (Int32 → wPS → Prop)) : Prop :=
  if l13I < 0 then (if (lg_cmp l9J (0 : Int64)) ≤ 0 then (if 0 ≤ (lg_cmp l9J (0 : Int64)) then (Φ (0 : Int32) S) else (Φ (-1 : Int32) S)) else (Φ (1 : Int32) S)) else (wkLt ((l11J * l6J)) fun x31 => ¬ (l1I < 0 ∨ S.len (wkAd (gNumbers_chain S l0A)) ≤ (l1I).toNatClampNeg) ∧ ¬ (l13I < 0 ∨ S.len (wkAd (S.rA (wkAd (gNumbers_chain S l0A)) (l1I).toNatClampNeg)) ≤ (l13I).toNatClampNeg) ∧ wkLt (((l9J * l4J) + ((S.rJ (wkAd (S.rA (wkAd (gNumbers_chain S l0A)) (l1I).toNatClampNeg)) (l13I).toNatClampNeg) * x31))) fun x35 => wkLt (l13I + (-1 : Int32)) fun x36 => rec 1 l0A x31 x36 l1I 0 l4J l6J 0 x35 S Φ)
def rX8_senseAt_go (F : Nat) : Nat → Nat → Nat → Int64 → Int32 → Int32 → Int32 → Int64 → Int64 → Int32 → Int64 → wPS → (Int32 → wPS → Prop) → Prop
  | 0, _, _, _, _, _, _, _, _, _, _, _, _ => False
  | k' + 1, lab, l0A, l11J, l13I, l1I, l2I, l4J, l6J, l8I, l9J, S, Φ => if lab = 0 then rX8_senseAt_b0 F (rX8_senseAt_go F k') l0A l1I l2I l4J l6J l8I S Φ else if lab = 1 then rX8_senseAt_b1 F (rX8_senseAt_go F k') l0A l1I l4J l6J l9J l11J l13I S Φ else False
def rX8_senseAt_s (F : Nat) (rec : Nat → Nat → Int64 → Int32 → Int32 → Int32 → Int64 → Int64 → Int32 → Int64 → wPS → (Int32 → wPS → Prop) → Prop) (l0A : Nat) (l1I : Int32) (l2I : Int32) (l3I : Int32) (S : wPS) (Φ : (Int32 → wPS → Prop)) : Prop :=
  wkLt ((((16 : Int64) * (Int32.toInt64 l3I)) - ((8 : Int64) <<< ((l2I).toInt64 &&& 63)))) fun x37 => wkLt (((1 : Int64) <<< ((l2I).toInt64 &&& 63))) fun x38 => rec 0 l0A 0 0 l1I l2I x37 x38 (0 : Int32) 0 S Φ
def rX8_senseAt (F : Nat) (l0A : Nat) (l1I : Int32) (l2I : Int32) (l3I : Int32) (S : wPS) (Φ : (Int32 → wPS → Prop)) : Prop := rX8_senseAt_s F (rX8_senseAt_go F F) l0A l1I l2I l3I S Φ
set_option maxHeartbeats 4000000 in
set_option maxRecDepth 100000 in
theorem tX8_senseAt_go {l : Launch} {X : wkX} {d F : Nat} {S0 : wPS} {Φ : (Int32 → wPS → Prop)} (C : wkC X cX8_senseAt RX8 14 wvX8_senseAt) (hR : wkRm X d 0 0) (hd : 0 ≤ d) (E : wkEnd l X cX8_senseAt 14 (some .int) 0 0 (fun v' S'' => ∃ v : Int32, v' = some (.int v) ∧ Φ v S'' ∧ wkWF S'' ∧ wkExt S0 S'')) : ∀ k' : Nat, (∀ (l0A : Nat) (l1I : Int32) (l2I : Int32) (l4J : Int64) (l6J : Int64) (l8I : Int32) (S : wPS), wkWF S → wkExt S0 S → wkIs S l0A 8 → rX8_senseAt_go F k' 0 l0A 0 0 l1I l2I l4J l6J l8I 0 S Φ → wkGo l X 14 0 0 22 S [some (.ref l0A), some (.int l1I), some (.int l2I), none, some (.long l4J), none, some (.long l6J), none, some (.int l8I), none, none, none, none, none] []) ∧ (∀ (l0A : Nat) (l1I : Int32) (l4J : Int64) (l6J : Int64) (l9J : Int64) (l11J : Int64) (l13I : Int32) (S : wPS), wkWF S → wkExt S0 S → wkIs S l0A 8 → rX8_senseAt_go F k' 1 l0A l11J l13I l1I 0 l4J l6J 0 l9J S Φ → wkGo l X 14 0 0 96 S [some (.ref l0A), some (.int l1I), none, none, some (.long l4J), none, some (.long l6J), none, none, some (.long l9J), none, some (.long l11J), none, some (.int l13I)] []) := by
  intro k'
  induction k' with
  | zero => exact ⟨fun l0A l1I l2I l4J l6J l8I S hW hE hl0A h => h.elim, fun l0A l1I l4J l6J l9J l11J l13I S hW hE hl0A h => h.elim⟩
  | succ k' ih =>
    refine ⟨?_, ?_⟩
    · intro l0A l1I l2I l4J l6J l8I S hW hE hl0A h
      have h : rX8_senseAt_b0 F (rX8_senseAt_go F k') l0A l1I l2I l4J l6J l8I S Φ := by
        rw [rX8_senseAt_go, if_pos (rfl : (0 : Nat) = 0)] at h
        exact h
      unfold rX8_senseAt_b0 at h
      refine wk_iload C dX8_senseAt_22 rfl ?_
      refine wk_iload_n C dX8_senseAt_24 rfl rfl ?_
      refine wk_icmp_ge C (tgt := 68) dX8_senseAt_25 (by decide) (fun c1 => ?_) (fun c1 => ?_)
      · rw [if_pos c1] at h
        refine wk_aload_n C dX8_senseAt_68 rfl rfl ?_
        refine wk_get C huX8_senseAt_8 hl0A.1 (fun cy => wAt_8 cy _ hl0A.2) rfl 5 (by decide) (List.mem_of_getElem? (i := 1) rfl) rfl (congrArg some (congrArg va_rf (wf_Numbers_degrees hW hl0A).1)) dX8_senseAt_69 ?_
        refine wk_iload_n C dX8_senseAt_72 rfl rfl ?_
        obtain ⟨i2, h⟩ := h
        refine wk_iald C (wf_Numbers_degrees hW hl0A).2.1 (wf_Numbers_degrees hW hl0A).2.2 i2 rfl dX8_senseAt_73 ?_
        obtain ⟨x3, ex3, h⟩ := wkLt_some h
        refine wk_topi ex3 ?_
        refine wk_istore C (lv' := [some (.ref l0A), some (.int l1I), some (.int l2I), none, some (.long l4J), none, some (.long l6J), none, some (.int x3), none, none, none, none, none]) dX8_senseAt_74 (by decide) rfl ?_
        refine wk_aload_n C dX8_senseAt_76 rfl rfl ?_
        refine wk_get C huX8_senseAt_8 hl0A.1 (fun cy => wAt_8 cy _ hl0A.2) rfl 4 (by decide) (List.mem_of_getElem? (i := 2) rfl) rfl (congrArg some (congrArg va_rf (wf_Numbers_chain hW hl0A).1)) dX8_senseAt_77 ?_
        refine wk_iload_n C dX8_senseAt_80 rfl rfl ?_
        obtain ⟨i4, h⟩ := h
        have w5 := wf_R_J hW (wf_Numbers_chain hW hl0A).2 (Nat.not_le.mp fun q => i4 (Or.inr q))
        refine wk_aald_J C (wf_Numbers_chain hW hl0A).2.1 (wf_Numbers_chain hW hl0A).2.2 i4 w5.1 dX8_senseAt_81 ?_
        refine wk_iload C dX8_senseAt_82 rfl ?_
        obtain ⟨i6, h⟩ := h
        refine wk_lald C w5.2.1 w5.2.2 i6 rfl dX8_senseAt_84 ?_
        obtain ⟨x7, ex7, h⟩ := wkLt_some h
        refine wk_topl ex7 ?_
        refine wk_lstore C (lv' := [some (.ref l0A), some (.int l1I), some (.int l2I), none, some (.long l4J), none, some (.long l6J), none, some (.int x3), some (.long x7), none, none, none, none]) dX8_senseAt_85 (by decide) rfl ?_
        refine wk_lconst C (v := 1) dX8_senseAt_87 (by decide) ?_
        refine wk_lstore C (lv' := [some (.ref l0A), some (.int l1I), some (.int l2I), none, some (.long l4J), none, some (.long l6J), none, some (.int x3), some (.long x7), none, some (.long (1 : Int64)), none, none]) dX8_senseAt_88 (by decide) rfl ?_
        refine wk_iload C dX8_senseAt_90 rfl ?_
        refine wk_iconst C (v := 1) dX8_senseAt_92 (by decide) ?_
        refine wk_isub C dX8_senseAt_93 rfl ?_
        obtain ⟨x8, ex8, h⟩ := wkLt_some h
        refine wk_topi ex8 ?_
        refine wk_istore C (lv' := [some (.ref l0A), some (.int l1I), some (.int l2I), none, some (.long l4J), none, some (.long l6J), none, some (.int x3), some (.long x7), none, some (.long (1 : Int64)), none, some (.int x8)]) dX8_senseAt_94 (by decide) rfl ?_
        exact wk_forget (lv' := [some (.ref l0A), some (.int l1I), none, none, some (.long l4J), none, some (.long l6J), none, none, some (.long x7), none, some (.long (1 : Int64)), none, some (.int x8)]) (wkLs.le ⟨rfl, rfl, rfl, rfl, rfl, rfl, rfl, trivial⟩) (ih.2 _ _ _ _ _ _ _ _ hW hE hl0A h)
      · rw [if_neg c1] at h
        refine wk_lload C dX8_senseAt_28 rfl ?_
        refine wk_ldc2 C (v := 2) (List.mem_of_getElem? (i := 3) rfl) dX8_senseAt_30 ?_
        refine wk_lrem C dX8_senseAt_33 (by decide) rfl ?_
        refine wk_lconst C (v := 0) dX8_senseAt_34 (by decide) ?_
        refine wk_lcmp C dX8_senseAt_35 rfl ?_
        refine wk_if_ne C (tgt := 68) dX8_senseAt_36 (by decide) (fun c9 => ?_) (fun c9 => ?_)
        · rw [if_neg c9] at h
          refine wk_aload_n C dX8_senseAt_68 rfl rfl ?_
          refine wk_get C huX8_senseAt_8 hl0A.1 (fun cy => wAt_8 cy _ hl0A.2) rfl 5 (by decide) (List.mem_of_getElem? (i := 1) rfl) rfl (congrArg some (congrArg va_rf (wf_Numbers_degrees hW hl0A).1)) dX8_senseAt_69 ?_
          refine wk_iload_n C dX8_senseAt_72 rfl rfl ?_
          obtain ⟨i10, h⟩ := h
          refine wk_iald C (wf_Numbers_degrees hW hl0A).2.1 (wf_Numbers_degrees hW hl0A).2.2 i10 rfl dX8_senseAt_73 ?_
          obtain ⟨x11, ex11, h⟩ := wkLt_some h
          refine wk_topi ex11 ?_
          refine wk_istore C (lv' := [some (.ref l0A), some (.int l1I), some (.int l2I), none, some (.long l4J), none, some (.long l6J), none, some (.int x11), none, none, none, none, none]) dX8_senseAt_74 (by decide) rfl ?_
          refine wk_aload_n C dX8_senseAt_76 rfl rfl ?_
          refine wk_get C huX8_senseAt_8 hl0A.1 (fun cy => wAt_8 cy _ hl0A.2) rfl 4 (by decide) (List.mem_of_getElem? (i := 2) rfl) rfl (congrArg some (congrArg va_rf (wf_Numbers_chain hW hl0A).1)) dX8_senseAt_77 ?_
          refine wk_iload_n C dX8_senseAt_80 rfl rfl ?_
          obtain ⟨i12, h⟩ := h
          have w13 := wf_R_J hW (wf_Numbers_chain hW hl0A).2 (Nat.not_le.mp fun q => i12 (Or.inr q))
          refine wk_aald_J C (wf_Numbers_chain hW hl0A).2.1 (wf_Numbers_chain hW hl0A).2.2 i12 w13.1 dX8_senseAt_81 ?_
          refine wk_iload C dX8_senseAt_82 rfl ?_
          obtain ⟨i14, h⟩ := h
          refine wk_lald C w13.2.1 w13.2.2 i14 rfl dX8_senseAt_84 ?_
          obtain ⟨x15, ex15, h⟩ := wkLt_some h
          refine wk_topl ex15 ?_
          refine wk_lstore C (lv' := [some (.ref l0A), some (.int l1I), some (.int l2I), none, some (.long l4J), none, some (.long l6J), none, some (.int x11), some (.long x15), none, none, none, none]) dX8_senseAt_85 (by decide) rfl ?_
          refine wk_lconst C (v := 1) dX8_senseAt_87 (by decide) ?_
          refine wk_lstore C (lv' := [some (.ref l0A), some (.int l1I), some (.int l2I), none, some (.long l4J), none, some (.long l6J), none, some (.int x11), some (.long x15), none, some (.long (1 : Int64)), none, none]) dX8_senseAt_88 (by decide) rfl ?_
          refine wk_iload C dX8_senseAt_90 rfl ?_
          refine wk_iconst C (v := 1) dX8_senseAt_92 (by decide) ?_
          refine wk_isub C dX8_senseAt_93 rfl ?_
          obtain ⟨x16, ex16, h⟩ := wkLt_some h
          refine wk_topi ex16 ?_
          refine wk_istore C (lv' := [some (.ref l0A), some (.int l1I), some (.int l2I), none, some (.long l4J), none, some (.long l6J), none, some (.int x11), some (.long x15), none, some (.long (1 : Int64)), none, some (.int x16)]) dX8_senseAt_94 (by decide) rfl ?_
          exact wk_forget (lv' := [some (.ref l0A), some (.int l1I), none, none, some (.long l4J), none, some (.long l6J), none, none, some (.long x15), none, some (.long (1 : Int64)), none, some (.int x16)]) (wkLs.le ⟨rfl, rfl, rfl, rfl, rfl, rfl, rfl, trivial⟩) (ih.2 _ _ _ _ _ _ _ _ hW hE hl0A h)
        · rw [if_pos c9] at h
          refine wk_lload C dX8_senseAt_39 rfl ?_
          refine wk_lconst C (v := 1) dX8_senseAt_41 (by decide) ?_
          refine wk_lcmp C dX8_senseAt_42 rfl ?_
          refine wk_if_le C (tgt := 68) dX8_senseAt_43 (by decide) (fun c17 => ?_) (fun c17 => ?_)
          · rw [if_pos c17] at h
            refine wk_aload_n C dX8_senseAt_68 rfl rfl ?_
            refine wk_get C huX8_senseAt_8 hl0A.1 (fun cy => wAt_8 cy _ hl0A.2) rfl 5 (by decide) (List.mem_of_getElem? (i := 1) rfl) rfl (congrArg some (congrArg va_rf (wf_Numbers_degrees hW hl0A).1)) dX8_senseAt_69 ?_
            refine wk_iload_n C dX8_senseAt_72 rfl rfl ?_
            obtain ⟨i18, h⟩ := h
            refine wk_iald C (wf_Numbers_degrees hW hl0A).2.1 (wf_Numbers_degrees hW hl0A).2.2 i18 rfl dX8_senseAt_73 ?_
            obtain ⟨x19, ex19, h⟩ := wkLt_some h
            refine wk_topi ex19 ?_
            refine wk_istore C (lv' := [some (.ref l0A), some (.int l1I), some (.int l2I), none, some (.long l4J), none, some (.long l6J), none, some (.int x19), none, none, none, none, none]) dX8_senseAt_74 (by decide) rfl ?_
            refine wk_aload_n C dX8_senseAt_76 rfl rfl ?_
            refine wk_get C huX8_senseAt_8 hl0A.1 (fun cy => wAt_8 cy _ hl0A.2) rfl 4 (by decide) (List.mem_of_getElem? (i := 2) rfl) rfl (congrArg some (congrArg va_rf (wf_Numbers_chain hW hl0A).1)) dX8_senseAt_77 ?_
            refine wk_iload_n C dX8_senseAt_80 rfl rfl ?_
            obtain ⟨i20, h⟩ := h
            have w21 := wf_R_J hW (wf_Numbers_chain hW hl0A).2 (Nat.not_le.mp fun q => i20 (Or.inr q))
            refine wk_aald_J C (wf_Numbers_chain hW hl0A).2.1 (wf_Numbers_chain hW hl0A).2.2 i20 w21.1 dX8_senseAt_81 ?_
            refine wk_iload C dX8_senseAt_82 rfl ?_
            obtain ⟨i22, h⟩ := h
            refine wk_lald C w21.2.1 w21.2.2 i22 rfl dX8_senseAt_84 ?_
            obtain ⟨x23, ex23, h⟩ := wkLt_some h
            refine wk_topl ex23 ?_
            refine wk_lstore C (lv' := [some (.ref l0A), some (.int l1I), some (.int l2I), none, some (.long l4J), none, some (.long l6J), none, some (.int x19), some (.long x23), none, none, none, none]) dX8_senseAt_85 (by decide) rfl ?_
            refine wk_lconst C (v := 1) dX8_senseAt_87 (by decide) ?_
            refine wk_lstore C (lv' := [some (.ref l0A), some (.int l1I), some (.int l2I), none, some (.long l4J), none, some (.long l6J), none, some (.int x19), some (.long x23), none, some (.long (1 : Int64)), none, none]) dX8_senseAt_88 (by decide) rfl ?_
            refine wk_iload C dX8_senseAt_90 rfl ?_
            refine wk_iconst C (v := 1) dX8_senseAt_92 (by decide) ?_
            refine wk_isub C dX8_senseAt_93 rfl ?_
            obtain ⟨x24, ex24, h⟩ := wkLt_some h
            refine wk_topi ex24 ?_
            refine wk_istore C (lv' := [some (.ref l0A), some (.int l1I), some (.int l2I), none, some (.long l4J), none, some (.long l6J), none, some (.int x19), some (.long x23), none, some (.long (1 : Int64)), none, some (.int x24)]) dX8_senseAt_94 (by decide) rfl ?_
            exact wk_forget (lv' := [some (.ref l0A), some (.int l1I), none, none, some (.long l4J), none, some (.long l6J), none, none, some (.long x23), none, some (.long (1 : Int64)), none, some (.int x24)]) (wkLs.le ⟨rfl, rfl, rfl, rfl, rfl, rfl, rfl, trivial⟩) (ih.2 _ _ _ _ _ _ _ _ hW hE hl0A h)
          · rw [if_neg c17] at h
            refine wk_lload C dX8_senseAt_46 rfl ?_
            refine wk_ldc2 C (v := 2) (List.mem_of_getElem? (i := 3) rfl) dX8_senseAt_48 ?_
            refine wk_ldiv C dX8_senseAt_51 (by decide) rfl ?_
            obtain ⟨x25, ex25, h⟩ := wkLt_some h
            refine wk_topl ex25 ?_
            refine wk_lstore C (lv' := [some (.ref l0A), some (.int l1I), some (.int l2I), none, some (.long x25), none, some (.long l6J), none, some (.int l8I), none, none, none, none, none]) dX8_senseAt_52 (by decide) rfl ?_
            refine wk_lload C dX8_senseAt_54 rfl ?_
            refine wk_ldc2 C (v := 2) (List.mem_of_getElem? (i := 3) rfl) dX8_senseAt_56 ?_
            refine wk_ldiv C dX8_senseAt_59 (by decide) rfl ?_
            obtain ⟨x26, ex26, h⟩ := wkLt_some h
            refine wk_topl ex26 ?_
            refine wk_lstore C (lv' := [some (.ref l0A), some (.int l1I), some (.int l2I), none, some (.long x25), none, some (.long x26), none, some (.int l8I), none, none, none, none, none]) dX8_senseAt_60 (by decide) rfl ?_
            obtain ⟨x27, ex27, h⟩ := wkLt_some h
            refine wk_iinc C (lv' := [some (.ref l0A), some (.int l1I), some (.int l2I), none, some (.long x25), none, some (.long x26), none, some (.int x27), none, none, none, none, none]) dX8_senseAt_62 rfl (by rw [ex27]; rfl) (by decide) rfl ?_
            refine wk_goto C (tgt := 22) dX8_senseAt_65 (by decide) ?_
            exact wk_forget (lv' := [some (.ref l0A), some (.int l1I), some (.int l2I), none, some (.long x25), none, some (.long x26), none, some (.int x27), none, none, none, none, none]) (wkLs.le ⟨rfl, rfl, rfl, rfl, rfl, rfl, trivial⟩) (ih.1 _ _ _ _ _ _ _ hW hE hl0A h)
    · intro l0A l1I l4J l6J l9J l11J l13I S hW hE hl0A h
      have h : rX8_senseAt_b1 F (rX8_senseAt_go F k') l0A l1I l4J l6J l9J l11J l13I S Φ := by
        rw [rX8_senseAt_go, if_neg (show ¬ (1 : Nat) = 0 by decide), if_pos (rfl : (1 : Nat) = 1)] at h
        exact h
      unfold rX8_senseAt_b1 at h
      refine wk_iload C dX8_senseAt_96 rfl ?_
      refine wk_if_lt C (tgt := 134) dX8_senseAt_98 (by decide) (fun c28 => ?_) (fun c28 => ?_)
      · rw [if_pos c28] at h
        refine wk_lload C dX8_senseAt_134 rfl ?_
        refine wk_lconst C (v := 0) dX8_senseAt_136 (by decide) ?_
        refine wk_lcmp C dX8_senseAt_137 rfl ?_
        refine wk_if_le C (tgt := 145) dX8_senseAt_138 (by decide) (fun c29 => ?_) (fun c29 => ?_)
        · rw [if_pos c29] at h
          refine wk_lload C dX8_senseAt_145 rfl ?_
          refine wk_lconst C (v := 0) dX8_senseAt_147 (by decide) ?_
          refine wk_lcmp C dX8_senseAt_148 rfl ?_
          refine wk_if_ge C (tgt := 156) dX8_senseAt_149 (by decide) (fun c30 => ?_) (fun c30 => ?_)
          · rw [if_pos c30] at h
            refine wk_iconst C (v := 0) dX8_senseAt_156 (by decide) ?_
            exact E _ _ _ _ _ _ (Nat.le_refl 0) (Nat.le_refl 0) dX8_senseAt_157 ⟨(0 : Int32), rfl, h, hW, hE⟩
          · rw [if_neg c30] at h
            refine wk_iconst C (v := (-1)) dX8_senseAt_152 (by decide) ?_
            refine wk_goto C (tgt := 157) dX8_senseAt_153 (by decide) ?_
            exact E _ _ _ _ _ _ (Nat.le_refl 0) (Nat.le_refl 0) dX8_senseAt_157 ⟨(-1 : Int32), rfl, h, hW, hE⟩
        · rw [if_neg c29] at h
          refine wk_iconst C (v := 1) dX8_senseAt_141 (by decide) ?_
          refine wk_goto C (tgt := 157) dX8_senseAt_142 (by decide) ?_
          exact E _ _ _ _ _ _ (Nat.le_refl 0) (Nat.le_refl 0) dX8_senseAt_157 ⟨(1 : Int32), rfl, h, hW, hE⟩
      · rw [if_neg c28] at h
        refine wk_lload C dX8_senseAt_101 rfl ?_
        refine wk_lload C dX8_senseAt_103 rfl ?_
        refine wk_lmul C dX8_senseAt_105 rfl ?_
        obtain ⟨x31, ex31, h⟩ := wkLt_some h
        refine wk_topl ex31 ?_
        refine wk_lstore C (lv' := [some (.ref l0A), some (.int l1I), none, none, some (.long l4J), none, some (.long l6J), none, none, some (.long l9J), none, some (.long x31), none, some (.int l13I)]) dX8_senseAt_106 (by decide) rfl ?_
        refine wk_lload C dX8_senseAt_108 rfl ?_
        refine wk_lload C dX8_senseAt_110 rfl ?_
        refine wk_lmul C dX8_senseAt_112 rfl ?_
        refine wk_aload_n C dX8_senseAt_113 rfl rfl ?_
        refine wk_get C huX8_senseAt_8 hl0A.1 (fun cy => wAt_8 cy _ hl0A.2) rfl 4 (by decide) (List.mem_of_getElem? (i := 2) rfl) rfl (congrArg some (congrArg va_rf (wf_Numbers_chain hW hl0A).1)) dX8_senseAt_114 ?_
        refine wk_iload_n C dX8_senseAt_117 rfl rfl ?_
        obtain ⟨i32, h⟩ := h
        have w33 := wf_R_J hW (wf_Numbers_chain hW hl0A).2 (Nat.not_le.mp fun q => i32 (Or.inr q))
        refine wk_aald_J C (wf_Numbers_chain hW hl0A).2.1 (wf_Numbers_chain hW hl0A).2.2 i32 w33.1 dX8_senseAt_118 ?_
        refine wk_iload C dX8_senseAt_119 rfl ?_
        obtain ⟨i34, h⟩ := h
        refine wk_lald C w33.2.1 w33.2.2 i34 rfl dX8_senseAt_121 ?_
        refine wk_lload C dX8_senseAt_122 rfl ?_
        refine wk_lmul C dX8_senseAt_124 rfl ?_
        refine wk_ladd C dX8_senseAt_125 rfl ?_
        obtain ⟨x35, ex35, h⟩ := wkLt_some h
        refine wk_topl ex35 ?_
        refine wk_lstore C (lv' := [some (.ref l0A), some (.int l1I), none, none, some (.long l4J), none, some (.long l6J), none, none, some (.long x35), none, some (.long x31), none, some (.int l13I)]) dX8_senseAt_126 (by decide) rfl ?_
        obtain ⟨x36, ex36, h⟩ := wkLt_some h
        refine wk_iinc C (lv' := [some (.ref l0A), some (.int l1I), none, none, some (.long l4J), none, some (.long l6J), none, none, some (.long x35), none, some (.long x31), none, some (.int x36)]) dX8_senseAt_128 rfl (by rw [ex36]; rfl) (by decide) rfl ?_
        refine wk_goto C (tgt := 96) dX8_senseAt_131 (by decide) ?_
        exact wk_forget (lv' := [some (.ref l0A), some (.int l1I), none, none, some (.long l4J), none, some (.long l6J), none, none, some (.long x35), none, some (.long x31), none, some (.int x36)]) (wkLs.le ⟨rfl, rfl, rfl, rfl, rfl, rfl, rfl, trivial⟩) (ih.2 _ _ _ _ _ _ _ _ hW hE hl0A h)
set_option maxHeartbeats 4000000 in
set_option maxRecDepth 100000 in
theorem tX8_senseAt {l : Launch} {g : wkG} {F : Nat}  {S : wPS} {l0A : Nat} {l1I : Int32} {l2I : Int32} {l3I : Int32} {Φ : (Int32 → wPS → Prop)} (hW : wkWF S) (hl0A : wkIs S l0A 8) (h : rX8_senseAt F l0A l1I l2I l3I S Φ) : wkMet l g yX8_senseAt wvX8_senseAt 0 0 0 [.ref l0A, .int l1I, .int l2I, .int l3I] S (fun v' S'' => ∃ v : Int32, v' = some (.int v) ∧ Φ v S'' ∧ wkWF S'' ∧ wkExt S S'') := by
  refine wkMet_of (ret := (some .int)) (by decide) rfl (Nat.le_of_ble_eq_true rfl) (fun X hg C hR E => ?_)
  subst hg
  have hE : wkExt S S := wkExt.rf
  have hd : 0 ≤ 0 := Nat.le_refl _
  show wkGo l X 14 0 0 0 S [some (.ref l0A), some (.int l1I), some (.int l2I), some (.int l3I), none, none, none, none, none, none, none, none, none, none] []
  have ih := tX8_senseAt_go (F := F) C hR hd E F
  have h : rX8_senseAt_s F (rX8_senseAt_go F F) l0A l1I l2I l3I S Φ := h
  unfold rX8_senseAt_s at h
  refine wk_ldc2 C (v := 16) (List.mem_of_getElem? (i := 4) rfl) dX8_senseAt_0 ?_
  refine wk_iload_n C dX8_senseAt_3 rfl rfl ?_
  refine wk_i2l C dX8_senseAt_4 rfl ?_
  refine wk_lmul C dX8_senseAt_5 rfl ?_
  refine wk_ldc2 C (v := 8) (List.mem_of_getElem? (i := 5) rfl) dX8_senseAt_6 ?_
  refine wk_iload_n C dX8_senseAt_9 rfl rfl ?_
  refine wk_lshl C dX8_senseAt_10 rfl ?_
  refine wk_lsub C dX8_senseAt_11 rfl ?_
  obtain ⟨x37, ex37, h⟩ := wkLt_some h
  refine wk_topl ex37 ?_
  refine wk_lstore C (lv' := [some (.ref l0A), some (.int l1I), some (.int l2I), some (.int l3I), some (.long x37), none, none, none, none, none, none, none, none, none]) dX8_senseAt_12 (by decide) rfl ?_
  refine wk_lconst C (v := 1) dX8_senseAt_14 (by decide) ?_
  refine wk_iload_n C dX8_senseAt_15 rfl rfl ?_
  refine wk_lshl C dX8_senseAt_16 rfl ?_
  obtain ⟨x38, ex38, h⟩ := wkLt_some h
  refine wk_topl ex38 ?_
  refine wk_lstore C (lv' := [some (.ref l0A), some (.int l1I), some (.int l2I), some (.int l3I), some (.long x37), none, some (.long x38), none, none, none, none, none, none, none]) dX8_senseAt_17 (by decide) rfl ?_
  refine wk_iconst C (v := 0) dX8_senseAt_19 (by decide) ?_
  refine wk_istore C (lv' := [some (.ref l0A), some (.int l1I), some (.int l2I), some (.int l3I), some (.long x37), none, some (.long x38), none, some (.int (0 : Int32)), none, none, none, none, none]) dX8_senseAt_20 (by decide) rfl ?_
  exact wk_forget (lv' := [some (.ref l0A), some (.int l1I), some (.int l2I), none, some (.long x37), none, some (.long x38), none, some (.int (0 : Int32)), none, none, none, none, none]) (wkLs.le ⟨rfl, rfl, rfl, rfl, rfl, rfl, trivial⟩) (ih.1 _ _ _ _ _ _ _ hW hE hl0A h)
