/-! THE PURE PART, equations: how large the rows can get by gathering. -/
section
/-- of unit rows: how long each row can be, by the amounts alone -/
def ckT (b0 b1 b2 b3 r0 r1 r2 r3 p : Nat) (k : Nat → Nat → Nat → Nat → Nat → Nat → Nat → Nat → Bool) : Bool :=
  match p with
  | 0 => k b0 (b1 % b0) (b2 % b0) (b3 % b0) r0 (r1 + b1 / b0 * r0) (r2 + b2 / b0 * r0) (r3 + b3 / b0 * r0)
  | 1 => k (b0 % b1) b1 (b2 % b1) (b3 % b1) (r0 + b0 / b1 * r1) r1 (r2 + b2 / b1 * r1) (r3 + b3 / b1 * r1)
  | 2 => k (b0 % b2) (b1 % b2) b2 (b3 % b2) (r0 + b0 / b2 * r2) (r1 + b1 / b2 * r2) r2 (r3 + b3 / b2 * r2)
  | _ => k (b0 % b3) (b1 % b3) (b2 % b3) b3 (r0 + b0 / b3 * r3) (r1 + b1 / b3 * r3) (r2 + b2 / b3 * r3) r3
def ckM (p b0 b1 b2 b3 : Nat) : Bool := Nat.blt 0 p && (Nat.beq b0 0 || Nat.ble p b0) && (Nat.beq b1 0 || Nat.ble p b1) && (Nat.beq b2 0 || Nat.ble p b2) && (Nat.beq b3 0 || Nat.ble p b3)
def ckZ (b1 b2 b3 : Nat) : Bool := Nat.beq b1 0 && Nat.beq b2 0 && Nat.beq b3 0
def ckD : Nat → Nat → Nat → Nat → Nat → Nat → Nat → Nat → Nat → Bool
  | 0, _, _, _, _, _, _, _, _ => false
  | f + 1, b0, b1, b2, b3, r0, r1, r2, r3 => Nat.ble r0 11 && Nat.ble r1 11 && Nat.ble r2 11 && Nat.ble r3 11 && (!ckM b0 b0 b1 b2 b3 || ckZ b1 b2 b3 || ckT b0 b1 b2 b3 r0 r1 r2 r3 0 (ckD f)) && (!ckM b1 b0 b1 b2 b3 || ckZ b0 b2 b3 || ckT b0 b1 b2 b3 r0 r1 r2 r3 1 (ckD f)) && (!ckM b2 b0 b1 b2 b3 || ckZ b0 b1 b3 || ckT b0 b1 b2 b3 r0 r1 r2 r3 2 (ckD f)) && (!ckM b3 b0 b1 b2 b3 || ckZ b0 b1 b2 || ckT b0 b1 b2 b3 r0 r1 r2 r3 3 (ckD f))
def ckAll : Bool := (List.range 7).all fun b0 => (List.range 7).all fun b1 => (List.range 7).all fun b2 => (List.range 7).all fun b3 => ckD 5 b0 b1 b2 b3 1 1 1 1
theorem ckAll_ok : ckAll = true := by decide +kernel
theorem ck_start {b0 b1 b2 b3 : Nat} (h0 : b0 ≤ 6) (h1 : b1 ≤ 6) (h2 : b2 ≤ 6) (h3 : b3 ≤ 6) : ckD 5 b0 b1 b2 b3 1 1 1 1 = true := by
  have h := ckAll_ok
  unfold ckAll at h
  have h := List.all_eq_true.mp h b0 (List.mem_range.mpr (by omega))
  have h := List.all_eq_true.mp h b1 (List.mem_range.mpr (by omega))
  have h := List.all_eq_true.mp h b2 (List.mem_range.mpr (by omega))
  exact List.all_eq_true.mp h b3 (List.mem_range.mpr (by omega))
/-- the length of a row -/
def rln (x : Nat → Int) : Nat := (x 0).natAbs + (x 1).natAbs + (x 2).natAbs + (x 3).natAbs
theorem nab_sub {x y t : Int} : (x - t * y).natAbs ≤ x.natAbs + t.natAbs * y.natAbs := by
  have := Int.natAbs_sub_le x (t * y)
  rw [Int.natAbs_mul] at this
  exact this
theorem rln_sub {x y : Nat → Int} {t : Int} : rln (fun k => x k - t * y k) ≤ rln x + t.natAbs * rln y := by
  show (x 0 - t * y 0).natAbs + (x 1 - t * y 1).natAbs + (x 2 - t * y 2).natAbs + (x 3 - t * y 3).natAbs ≤ rln x + t.natAbs * rln y
  unfold rln
  have := nab_sub (x := x 0) (y := y 0) (t := t)
  have := nab_sub (x := x 1) (y := y 1) (t := t)
  have := nab_sub (x := x 2) (y := y 2) (t := t)
  have := nab_sub (x := x 3) (y := y 3) (t := t)
  rw [Nat.mul_add, Nat.mul_add, Nat.mul_add]
  omega
/-- an amount and a row behind a turn -/
theorem tk_row {n o i : Nat} {α : Nat → Int} {B : Nat → Nat → Int} {r s : Nat} (hi : i < n) (hn : i ≠ o) (hr : rln (B i) ≤ r) (hs : rln (B o) ≤ s) : (tkA n o α i).natAbs = (α i).natAbs % (α o).natAbs ∧ rln (tkB n o α B i) ≤ r + (α i).natAbs / (α o).natAbs * s := by
  constructor
  · unfold tkA
    rw [if_pos ⟨hi, hn⟩, ← Int.natAbs_tmod]
    congr 1
    have := Int.tdiv_mul_add_tmod (α i) (α o)
    omega
  · rw [show tkB n o α B i = fun k => B i k - (α i).tdiv (α o) * B o k from funext fun k => if_pos ⟨hi, hn⟩]
    refine Nat.le_trans rln_sub ?_
    rw [Int.natAbs_tdiv]
    exact Nat.add_le_add hr (Nat.mul_le_mul_left _ hs)
theorem tk_rest {n o i : Nat} {α : Nat → Int} {B : Nat → Nat → Int} (h : n ≤ i) {r s : Nat} (ha : α i = 0) (hr : rln (B i) ≤ r) : (tkA n o α i).natAbs = (α i).natAbs % (α o).natAbs ∧ rln (tkB n o α B i) ≤ r + (α i).natAbs / (α o).natAbs * s := by
  have e : ¬ (i < n ∧ i ≠ o) := fun z => by omega
  unfold tkA
  rw [if_neg e, show tkB n o α B i = B i from funext fun k => if_neg e, ha]
  refine ⟨by rw [show (0 : Int).natAbs = 0 from rfl, Nat.zero_mod], Nat.le_trans hr (Nat.le_add_right _ _)⟩
theorem tk_self {n o : Nat} {α : Nat → Int} {B : Nat → Nat → Int} : tkA n o α o = α o ∧ tkB n o α B o = B o := ⟨if_neg (fun z => z.2 rfl), funext fun k => if_neg (fun z => z.2 rfl)⟩
def ckI (α : Nat → Int) (B : Nat → Nat → Int) : Prop := ∃ f r0 r1 r2 r3, ckD f (α 0).natAbs (α 1).natAbs (α 2).natAbs (α 3).natAbs r0 r1 r2 r3 = true ∧ rln (B 0) ≤ r0 ∧ rln (B 1) ≤ r1 ∧ rln (B 2) ≤ r2 ∧ rln (B 3) ≤ r3
theorem ckI_le {α : Nat → Int} {B : Nat → Nat → Int} (h : ckI α B) : ∀ i, i < 4 → rln (B i) ≤ 11 := by
  obtain ⟨f, r0, r1, r2, r3, h, a0, a1, a2, a3⟩ := h
  cases f with
  | zero => cases h
  | succ f =>
    rw [ckD] at h
    simp only [Bool.and_eq_true] at h
    obtain ⟨⟨⟨⟨⟨⟨⟨h0, h1⟩, h2⟩, h3⟩, _⟩, _⟩, _⟩, _⟩ := h
    have h0 := Nat.le_of_ble_eq_true h0
    have h1 := Nat.le_of_ble_eq_true h1
    have h2 := Nat.le_of_ble_eq_true h2
    have h3 := Nat.le_of_ble_eq_true h3
    intro i hi
    rcases (by omega : i = 0 ∨ i = 1 ∨ i = 2 ∨ i = 3) with rfl | rfl | rfl | rfl <;> omega
theorem ckM_of {n o : Nat} {α : Nat → Int} (g : gOne n o α) (hz : ∀ i, n ≤ i → α i = 0) : ckM (α o).natAbs (α 0).natAbs (α 1).natAbs (α 2).natAbs (α 3).natAbs = true := by
  have k : ∀ i, (Nat.beq (α i).natAbs 0 || Nat.ble (α o).natAbs (α i).natAbs) = true := fun i => by
    by_cases e : α i = 0
    · rw [e]
      rfl
    · have : i < n := Nat.lt_of_not_le fun z => e (hz i z)
      rw [Nat.ble_eq_true_of_le (g.2.2.1 i this e), Bool.or_true]
  unfold ckM
  rw [k 0, k 1, k 2, k 3, show Nat.blt 0 (α o).natAbs = true from Nat.ble_eq_true_of_le (by have := g.2.1; omega)]
  rfl
theorem ckI_st {n o : Nat} {α : Nat → Int} {B : Nat → Nat → Int} (hn : n ≤ 4) (g : gOne n o α) (hz : ∀ i, n ≤ i → α i = 0) (h : ckI α B) : ckI (tkA n o α) (tkB n o α B) := by
  obtain ⟨f, r0, r1, r2, r3, h, a0, a1, a2, a3⟩ := h
  have hM := ckM_of g hz
  obtain ⟨g1, g2, _, j, j1, j2, j3⟩ := g
  cases f with
  | zero => cases h
  | succ f =>
    have T : ∀ (i : Nat) {r s : Nat}, i ≠ o → rln (B i) ≤ r → rln (B o) ≤ s → (tkA n o α i).natAbs = (α i).natAbs % (α o).natAbs ∧ rln (tkB n o α B i) ≤ r + (α i).natAbs / (α o).natAbs * s := fun i r s hi hr hs => by
      by_cases e : i < n
      · exact tk_row e hi hr hs
      · exact tk_rest (by omega) (hz i (by omega)) hr
    have S := tk_self (n := n) (o := o) (α := α) (B := B)
    have zz : ∀ {x : Nat}, Nat.beq x 0 = true → x = 0 := fun h => Nat.eq_of_beq_eq_true h
    have nz : ¬ (α j).natAbs = 0 := by omega
    rw [ckD] at h
    simp only [Bool.and_eq_true, Bool.or_eq_true, ckZ] at h
    obtain ⟨⟨⟨⟨_, q0⟩, q1⟩, q2⟩, q3⟩ := h
    rcases (by omega : o = 0 ∨ o = 1 ∨ o = 2 ∨ o = 3) with rfl | rfl | rfl | rfl
    · rcases q0 with (q | q) | q
      · rw [hM] at q
        cases q
      · have := zz q.1.1
        have := zz q.1.2
        have := zz q.2
        rcases (by omega : j = 1 ∨ j = 2 ∨ j = 3) with rfl | rfl | rfl <;> omega
      · obtain ⟨t1, u1⟩ := T 1 (by omega) a1 a0
        obtain ⟨t2, u2⟩ := T 2 (by omega) a2 a0
        obtain ⟨t3, u3⟩ := T 3 (by omega) a3 a0
        exact ⟨f, _, _, _, _, by rw [t1, t2, t3, S.1]; exact q, by rw [S.2]; exact a0, u1, u2, u3⟩
    · rcases q1 with (q | q) | q
      · rw [hM] at q
        cases q
      · have := zz q.1.1
        have := zz q.1.2
        have := zz q.2
        rcases (by omega : j = 0 ∨ j = 2 ∨ j = 3) with rfl | rfl | rfl <;> omega
      · obtain ⟨t1, u1⟩ := T 0 (by omega) a0 a1
        obtain ⟨t2, u2⟩ := T 2 (by omega) a2 a1
        obtain ⟨t3, u3⟩ := T 3 (by omega) a3 a1
        exact ⟨f, _, _, _, _, by rw [t1, t2, t3, S.1]; exact q, u1, by rw [S.2]; exact a1, u2, u3⟩
    · rcases q2 with (q | q) | q
      · rw [hM] at q
        cases q
      · have := zz q.1.1
        have := zz q.1.2
        have := zz q.2
        rcases (by omega : j = 0 ∨ j = 1 ∨ j = 3) with rfl | rfl | rfl <;> omega
      · obtain ⟨t1, u1⟩ := T 0 (by omega) a0 a2
        obtain ⟨t2, u2⟩ := T 1 (by omega) a1 a2
        obtain ⟨t3, u3⟩ := T 3 (by omega) a3 a2
        exact ⟨f, _, _, _, _, by rw [t1, t2, t3, S.1]; exact q, u1, u2, by rw [S.2]; exact a2, u3⟩
    · rcases q3 with (q | q) | q
      · rw [hM] at q
        cases q
      · have := zz q.1.1
        have := zz q.1.2
        have := zz q.2
        rcases (by omega : j = 0 ∨ j = 1 ∨ j = 2) with rfl | rfl | rfl <;> omega
      · obtain ⟨t1, u1⟩ := T 0 (by omega) a0 a3
        obtain ⟨t2, u2⟩ := T 1 (by omega) a1 a3
        obtain ⟨t3, u3⟩ := T 2 (by omega) a2 a3
        exact ⟨f, _, _, _, _, by rw [t1, t2, t3, S.1]; exact q, u1, u2, u3, by rw [S.2]; exact a3⟩
theorem gtS_z {n i : Nat} {α0 α : Nat → Int} {B0 B : Nat → Nat → Int} (hz : α0 i = 0) (h : gtS n α0 B0 α B) : α i = 0 := by
  have := gtS_le (i := i) h
  rw [hz] at this
  have e : (0 : Int).natAbs = 0 := rfl
  omega
/-- gathered from unit rows -/
theorem gtS_unit {n : Nat} {α0 α : Nat → Int} {B0 B : Nat → Nat → Int} (hn : n ≤ 4) (h6 : ∀ i, (α0 i).natAbs ≤ 6) (hz : ∀ i, n ≤ i → α0 i = 0) (h1 : ∀ i, i < 4 → rln (B0 i) ≤ 1) (h : gtS n α0 B0 α B) : ∀ i, i < 4 → rln (B i) ≤ 11 := by
  refine ckI_le (α := α) ?_
  induction h using gtS_ind with
  | rf => exact ⟨5, 1, 1, 1, 1, ck_start (h6 0) (h6 1) (h6 2) (h6 3), h1 0 (by omega), h1 1 (by omega), h1 2 (by omega), h1 3 (by omega)⟩
  | st a g ih => exact ckI_st hn g (fun i hi => gtS_z (hz i hi) a) ih
end
