/-! THE PURE PART, flows: the greatest; what is reached in the end bars more. -/
section
theorem isum_cut {X : Nat → Bool} {A B C : Nat → Nat} {f : Nat → Int} {n : Nat} : ∀ m, (∀ i, i < m → (X (A i) = true → X (B i) = false → f i = C i) ∧ (X (A i) = false → X (B i) = true → f i = 0)) → (∀ i, i < m → A i < n ∧ B i < n) → isum (fun v => if X v = true then exs A B f v m else 0) n = (nsum (barW X A B C) m : Nat)
  | 0, _, _ => by
    have z : ∀ n, isum (fun v => if X v = true then exs A B f v 0 else 0) n = 0 := fun n => by
      induction n with
      | zero => rfl
      | succ n ih =>
        rw [isum, ih, exs]
        by_cases hx : X n = true
        · rw [if_pos hx]
          rfl
        · rw [if_neg hx]
          rfl
    rw [z]
    rfl
  | m + 1, hf, hn => by
    have ih := isum_cut (X := X) (A := A) (B := B) (C := C) (f := f) (n := n) m (fun i hi => hf i (by omega)) (fun i hi => hn i (by omega))
    obtain ⟨f0, f1⟩ := hf m (by omega)
    obtain ⟨a1, b1⟩ := hn m (by omega)
    rw [isum_exs, isum_one, isum_one, nsum, ih]
    unfold barW
    cases ha : X (A m) with
    | true =>
      rw [if_pos ⟨a1, rfl⟩]
      cases hb : X (B m) with
      | true =>
        rw [if_pos ⟨b1, rfl⟩, if_neg (fun z => absurd z.2 (by decide))]
        omega
      | false =>
        rw [if_neg (fun z => absurd z.2 (by decide)), if_pos ⟨rfl, rfl⟩, f0 ha hb]
        omega
    | false =>
      rw [if_neg (fun z => absurd z.2 (by decide)), if_neg (c := false = true ∧ X (B m) = false) (fun z => absurd z.1 (by decide))]
      cases hb : X (B m) with
      | true =>
        rw [if_pos ⟨b1, rfl⟩, f1 ha hb]
        omega
      | false =>
        rw [if_neg (fun z => absurd z.2 (by decide))]
        omega
theorem flow_cut {X : Nat → Bool} {A B C : Nat → Nat} {f : Nat → Int} {m y : Nat} (hf : ∀ i, i < m → (X (A i) = true → X (B i) = false → f i = C i) ∧ (X (A i) = false → X (B i) = true → f i = 0)) (hn : ∀ i, i < m → A i < y + 2 ∧ B i < y + 2) (h0 : X 0 = true) (h1 : X (y + 1) = false) (he : ∀ v, 1 ≤ v → v < y + 1 → exs A B f v m = 0) : exs A B f 0 m = (nsum (barW X A B C) m : Nat) := by
  have key := isum_cut (X := X) (n := y + 2) m hf hn
  have all : ∀ k, k ≤ y → isum (fun v => if X v = true then exs A B f v m else 0) (k + 1) = exs A B f 0 m := fun k => by
    induction k with
    | zero =>
      intro _
      rw [isum, isum, if_pos h0]
      omega
    | succ k ih =>
      intro hk
      rw [isum, ih (by omega), he (k + 1) (by omega) (by omega)]
      by_cases hx : X (k + 1) = true
      · rw [if_pos hx]
        omega
      · rw [if_neg hx]
        omega
  rw [isum, all y (Nat.le_refl _), if_neg (by rw [h1]; decide)] at key
  omega
/-- what goes behind k times one more -/
def fK (A B C : Nat → Nat) (n m : Nat) : Nat → (Nat → Nat)
  | 0 => fun _ => 0
  | k + 1 => ldF A B C (fK A B C n m k) n m 0 (n - 1) 0
def okK (A B C : Nat → Nat) (n m k : Nat) : Bool := ldB A B C (fK A B C n m k) n m 0 (n - 1) 0
def gA (A B C : Nat → Nat) (n m : Nat) : Nat → Nat → Nat
  | 0, k => k
  | t + 1, k => if okK A B C n m k = true then gA A B C n m t (k + 1) else k
/-- the greatest -/
def gr (A B C : Nat → Nat) (n m : Nat) : Nat := gA A B C n m 70 0
theorem fK_ok {A B C : Nat → Nat} {m y : Nat} (hb : flB (y + 2) m A B C (fun _ => 0)) : ∀ k, (∀ j, j < k → okK A B C (y + 2) m j = true) → flB (y + 2) m A B C (fK A B C (y + 2) m k) ∧ ∀ v, exs A B (fun j => (fK A B C (y + 2) m k j : Int)) v m = k * (nx v 0 - nx v (y + 1))
  | 0, _ => ⟨hb, fun v => by
    have : ∀ m, exs A B (fun _ => ((0 : Nat) : Int)) v m = 0 := fun m => by
      induction m with
      | zero => rfl
      | succ m ih =>
        rw [exs, ih]
        by_cases a : A m = v <;> by_cases b : B m = v <;> simp only [a, b, if_true, if_false] <;> rfl
    show exs A B (fun _ => ((0 : Nat) : Int)) v m = _
    rw [this m]
    omega⟩
  | k + 1, h => by
    obtain ⟨a, b⟩ := fK_ok hb k (fun j hj => h j (by omega))
    obtain ⟨c1, _, c3⟩ := ld_ok (en := y + 1) a (Nat.zero_le m) (show 0 < y + 2 by omega) (h k (Nat.lt_succ_self k))
    refine ⟨c1, fun v => ?_⟩
    have e := c3 v
    rw [b v] at e
    have e : exs A B (fun j => (fK A B C (y + 2) m (k + 1) j : Int)) v m = k * (nx v 0 - nx v (y + 1)) + nx v 0 - nx v (y + 1) := e
    rw [e, Int.natCast_add, Int.add_mul]
    have : ((1 : Nat) : Int) * (nx v 0 - nx v (y + 1)) = nx v 0 - nx v (y + 1) := Int.one_mul _
    rw [this]
    omega
theorem fK_val {A B C : Nat → Nat} {m y k : Nat} (hb : flB (y + 2) m A B C (fun _ => 0)) (h : ∀ j, j < k → okK A B C (y + 2) m j = true) : exs A B (fun j => (fK A B C (y + 2) m k j : Int)) 0 m = k ∧ ∀ v, 1 ≤ v → v < y + 1 → exs A B (fun j => (fK A B C (y + 2) m k j : Int)) v m = 0 := by
  obtain ⟨_, b⟩ := fK_ok hb k h
  constructor
  · rw [b 0]
    unfold nx
    rw [if_pos rfl, if_neg (by omega)]
    omega
  · intro v h1 h2
    rw [b v]
    unfold nx
    rw [if_neg (by omega), if_neg (by omega)]
    omega
theorem fK_le {A B C : Nat → Nat} {m y k M : Nat} (hb : flB (y + 2) m A B C (fun _ => 0)) (h : ∀ j, j < k → okK A B C (y + 2) m j = true) (X : Nat → Bool) (h0 : X 0 = true) (h1 : X (y + 1) = false) (hM : nsum (barW X A B C) m ≤ M) : k ≤ M := by
  obtain ⟨v1, v2⟩ := fK_val hb h
  obtain ⟨a, _⟩ := fK_ok hb k h
  have := flow_bar (X := X) (C := C) (f := fun j => (fK A B C (y + 2) m k j : Int)) (y := y) (m := m) (fun i hi => ⟨by omega, by have := (a.2.2 i hi).2.2.2.2; omega⟩) (fun i hi => ⟨(a.2.2 i hi).1, (a.2.2 i hi).2.1⟩) h0 h1 v2
  rw [v1] at this
  omega
theorem gA_spec {A B C : Nat → Nat} {n m : Nat} : ∀ t k, (∀ j, j < k → okK A B C n m j = true) → (∀ j, j < gA A B C n m t k → okK A B C n m j = true) ∧ (gA A B C n m t k < k + t → okK A B C n m (gA A B C n m t k) = false) ∧ k ≤ gA A B C n m t k ∧ gA A B C n m t k ≤ k + t
  | 0, k, h => ⟨h, fun z => absurd z (Nat.lt_irrefl _), Nat.le_refl _, Nat.le_refl _⟩
  | t + 1, k, h => by
    rw [gA]
    by_cases e : okK A B C n m k = true
    · rw [if_pos e]
      obtain ⟨a, b, c, d⟩ := gA_spec t (k + 1) (fun j hj => by
        by_cases z : j = k
        · rw [z]
          exact e
        · exact h j (by omega))
      exact ⟨a, fun z => b (by omega), by omega, by omega⟩
    · rw [if_neg e]
      exact ⟨h, fun _ => Bool.eq_false_iff.mpr e, Nat.le_refl _, by omega⟩
theorem gr_spec {A B C : Nat → Nat} {m y : Nat} (hb : flB (y + 2) m A B C (fun _ => 0)) (hC : ∀ i, i < m → C i ≤ 6) : (∀ j, j < gr A B C (y + 2) m → okK A B C (y + 2) m j = true) ∧ okK A B C (y + 2) m (gr A B C (y + 2) m) = false ∧ gr A B C (y + 2) m ≤ 60 := by
  obtain ⟨a, b, _, d⟩ := gA_spec (A := A) (B := B) (C := C) (n := y + 2) (m := m) 70 0 (fun j hj => absurd hj (Nat.not_lt_zero _))
  have le : gA A B C (y + 2) m 70 0 ≤ 60 := fK_le hb a (fun v => decide (v = 0)) (decide_eq_true rfl) (decide_eq_false (by omega)) (by
    have := nsum_le (w := barW (fun v => decide (v = 0)) A B C) (M := 6) m (fun i hi => by
      unfold barW
      by_cases z : (fun v => decide (v = 0)) (A i) = true ∧ (fun v => decide (v = 0)) (B i) = false
      · rw [if_pos z]
        exact hC i hi
      · rw [if_neg z]
        omega)
    have := hb.2.1
    omega)
  exact ⟨a, b (by omega), le⟩
/-- what was reached when no more could be led on -/
def rcK (A B C : Nat → Nat) (n m : Nat) : Nat := (rnS A B C (fK A B C n m (gr A B C n m)) 0 0 m n).1
theorem rcK_cut {A B C : Nat → Nat} {m y : Nat} (hb : flB (y + 2) m A B C (fun _ => 0)) (hC : ∀ i, i < m → C i ≤ 6) : (rcK A B C (y + 2) m).testBit 0 = true ∧ (rcK A B C (y + 2) m).testBit (y + 1) = false ∧ rcK A B C (y + 2) m < 2 ^ (y + 2) ∧ nsum (barW (fun v => (rcK A B C (y + 2) m).testBit v) A B C) m = gr A B C (y + 2) m := by
  obtain ⟨g1, g2, g3⟩ := gr_spec hb hC
  obtain ⟨a, _⟩ := fK_ok hb _ g1
  obtain ⟨v1, v2⟩ := fK_val hb g1
  have hAB : ∀ i, i < m → A i < y + 2 ∧ B i < y + 2 := fun i hi => ⟨(a.2.2 i hi).1, (a.2.2 i hi).2.1⟩
  have r0 := (tr_rn (A := A) (B := B) (C := C) (f := fK A B C (y + 2) m (gr A B C (y + 2) m)) (Nat.zero_le m) hAB (show 0 < y + 2 by omega) (y + 2)).1
  have cl := rnS_cl (A := A) (B := B) (C := C) (f := fK A B C (y + 2) m (gr A B C (y + 2) m)) (Nat.zero_le m) hAB (show 0 < y + 2 by omega)
  have lt := rnS_lt (A := A) (B := B) (C := C) (f := fK A B C (y + 2) m (gr A B C (y + 2) m)) (Nat.zero_le m) hAB (show 0 < y + 2 by omega) (y + 2)
  refine ⟨r0, g2, lt, ?_⟩
  have := flow_cut (X := fun v => (rcK A B C (y + 2) m).testBit v) (C := C) (f := fun j => (fK A B C (y + 2) m (gr A B C (y + 2) m) j : Int)) (y := y) (m := m) (fun i hi => by
    obtain ⟨c1, c2⟩ := rd1_cl cl i (Nat.zero_le _) (by omega)
    have fc := (a.2.2 i hi).2.2.2.2
    refine ⟨fun x1 x2 => ?_, fun x1 x2 => ?_⟩
    · have : ¬ fK A B C (y + 2) m (gr A B C (y + 2) m) i < C i := fun z => c1 ⟨x1, x2, z⟩
      show ((fK A B C (y + 2) m (gr A B C (y + 2) m) i : Nat) : Int) = C i
      omega
    · have : ¬ 0 < fK A B C (y + 2) m (gr A B C (y + 2) m) i := fun z => c2 ⟨x2, x1, z⟩
      show ((fK A B C (y + 2) m (gr A B C (y + 2) m) i : Nat) : Int) = 0
      omega) hAB r0 g2 v2
  rw [v1] at this
  omega
theorem T_greatest_go {F n m : Nat} {A B C : Nat → Nat} (hF : 2 ^ 10 ≤ F) (hn : 2 ≤ n) (hb : ∀ k, (∀ j, j < k → okK A B C n m j = true) → flB n m A B C (fK A B C n m k)) (hg : gr A B C n m < 70) : ∀ t k' k (V : mV), t + k = 70 → t < k' → (∀ j, j < k → okK A B C n m j = true) → gA A B C n m t k = gr A B C n m → flS V n m A B C (fK A B C n m k) → mTo (mX7_greatest_go F k' 0 (nI k) V) (fun p => p.1 = nI (gr A B C n m) ∧ p.2.fI 2 10 = nI (rcK A B C n m) ∧ flS p.2 n m A B C (fK A B C n m (gr A B C n m))) := by
  intro t
  induction t with
  | zero =>
    intro k' k V h1 h2 h3 h4 hS
    rw [gA] at h4
    omega
  | succ t ih =>
    intro k' k V h1 h2 h3 h4 hS
    obtain ⟨k'', rfl⟩ : ∃ x, k' = x + 1 := ⟨k' - 1, by omega⟩
    have hbk := hb k h3
    rw [mX7_greatest_go, if_pos rfl]
    unfold mX7_greatest_b0
    refine mTo.le (a := 70) rfl rfl (by omega) (by omega) (fun h => by omega) (fun h => ?_)
    have en : V.fI 2 8 - 1 = nI (n - 1) := by
      obtain ⟨y, rfl⟩ : ∃ y, n = y + 1 := ⟨n - 1, by omega⟩
      rw [hS.1, nI_pred]
      rfl
    rw [en]
    rw [gA] at h4
    have key := T_leadsOn (F := F) (st := 0) (en := n - 1) (least := 0) hF hbk (Nat.zero_le m) (by omega) (by omega) hS
    refine mTo.W key (fun a V1 _ q => ?_)
    obtain ⟨q1, q2, q3⟩ := q
    have q1 : a ≠ 0 ↔ okK A B C n m k = true := q1
    have q2 : okK A B C n m k = false → V1.fI 2 10 = nI (rnS A B C (fK A B C n m k) 0 0 m n).1 := q2
    refine mTo.ite (fun e => mTo.ret ?_) (fun e => mTo.lt ?_)
    · have e1 : okK A B C n m k = false := Bool.eq_false_iff.mpr (fun z => q1.mpr z e)
      rw [e1, if_neg (by decide)] at h4
      subst h4
      refine ⟨rfl, q2 e1, ?_⟩
      have q3 : flS V1 n m A B C (ldF A B C (fK A B C n m (gr A B C n m)) n m 0 (n - 1) 0) := q3
      unfold ldF at q3
      rw [if_neg (fun z => by have : okK A B C n m (gr A B C n m) = true := z; rw [e1] at this; exact absurd this (by decide))] at q3
      exact q3
    · have e1 := q1.mp e
      rw [e1, if_pos rfl] at h4
      rw [nI_1]
      refine ih k'' (k + 1) V1 (by omega) (by omega) (fun j hj => ?_) h4 q3
      by_cases z : j = k
      · rw [z]
        exact e1
      · exact h3 j (by omega)
end
