/-! THE PURE PART, equations: the machine's gathering is this one, modulo 2 ^ 64 where it does not matter. -/
section
/-- an index is in its bounds, its number told -/
theorem mTo.ic {α : Type} {c N : Nat} {x : Int32} {B : Option α} {Q : α → Prop} (ex : x = nI c) (h : c < N) (hN : N < 2 ^ 31) (k : mTo B Q) : mTo (if x < 0 ∨ N ≤ c then none else B) Q := by
  subst ex
  exact mTo.gd (fun z => z.elim (nI_pos (by omega)) (fun z => by omega)) k
abbrev jO (x : Int) : Int64 := Int64.ofInt x
theorem jO_in {x : Int} (h : x.natAbs < 2 ^ 62) : (jO x).toInt = x := Int64.toInt_ofInt_of_le (by omega) (by omega)
theorem jO_eq {x y : Int} (hx : x.natAbs < 2 ^ 62) (hy : y.natAbs < 2 ^ 62) : jO x = jO y ↔ x = y := by
  constructor
  · intro h
    have := congrArg Int64.toInt h
    rw [jO_in hx, jO_in hy] at this
    exact this
  · intro h
    rw [h]
theorem jO_0 : jO 0 = 0 := rfl
theorem jO_toInt (x : Int64) : jO x.toInt = x := Int64.ofInt_toInt x
theorem jO_div {x y : Int} (hx : x.natAbs < 2 ^ 62) (hy : y.natAbs < 2 ^ 62) : jO x / jO y = jO (x.tdiv y) := by
  apply Int64.toInt_inj.mp
  have q : (x.tdiv y).natAbs ≤ x.natAbs := by
    rw [Int.natAbs_tdiv]
    exact Nat.div_le_self _ _
  rw [Int64.toInt_div, jO_in hx, jO_in hy, jO_in (by omega), bm64 (by omega) (by omega)]
theorem jO_sub (x y : Int) : jO x - jO y = jO (x - y) := (Int64.ofInt_sub x y).symm
theorem jO_add (x y : Int) : jO x + jO y = jO (x + y) := (Int64.ofInt_add x y).symm
theorem jO_mul (x y : Int) : jO x * jO y = jO (x * y) := (Int64.ofInt_mul x y).symm
theorem jO_neg (x : Int) : -jO x = jO (-x) := (Int64.ofInt_neg x).symm
theorem jO_abs {x : Int} (h : x.natAbs < 2 ^ 62) : (if 0 < jO x then jO x else -jO x) = jO x.natAbs := by
  have e : (0 : Int64) < jO x ↔ 0 < x := by
    rw [Int64.lt_iff_toInt_lt, jO_in h]
    rfl
  by_cases z : 0 < x
  · rw [if_pos (e.mpr z)]
    congr 1
    omega
  · rw [if_neg (fun y => z (e.mp y)), jO_neg]
    congr 1
    omega
theorem jO_32 (x : Int32) : Int32.toInt64 x = jO x.toInt := by
  apply Int64.toInt_inj.mp
  have := i32_nb x
  rw [I_J, jO_in (by omega)]
theorem cmp0 {x y : Int} (hx : x.natAbs < 2 ^ 62) (hy : y.natAbs < 2 ^ 62) : lg_cmp (jO x) (jO y) = 0 ↔ x = y := (lg_cmp_eq _ _).trans (jO_eq hx hy)
theorem jO_z {x : Int} (hx : x.natAbs < 2 ^ 62) : jO x = 0 ↔ x = 0 := jO_eq hx (show (0 : Int).natAbs < 2 ^ 62 by decide)
theorem cmpZ {x : Int} (hx : x.natAbs < 2 ^ 62) : lg_cmp (jO x) 0 = 0 ↔ x = 0 := cmp0 hx (show (0 : Int).natAbs < 2 ^ 62 by decide)
theorem cmpge {x y : Int} (hx : x.natAbs < 2 ^ 62) (hy : y.natAbs < 2 ^ 62) : 0 ≤ lg_cmp (jO x) (jO y) ↔ y ≤ x := by
  have a := lg_cmp_lt (jO x) (jO y)
  have b : jO x < jO y ↔ x < y := by rw [Int64.lt_iff_toInt_lt, jO_in hx, jO_in hy]
  constructor
  · intro h
    refine Int.not_lt.mp fun z => ?_
    have := a.mpr (b.mpr z)
    exact absurd this (Int32.not_lt.mpr h)
  · intro h
    refine Int32.not_lt.mp fun z => ?_
    have := b.mp (a.mp z)
    omega
theorem mJ_at {V : mV} {a j i : Nat} {x : Int32} {v : Int64} (hx : x.toNatClampNeg = j) : (mJ V a x v).rJ a i = if i = j then v else V.rJ a i := by
  show va_up V.rJ a (vp_updL (V.rJ a) x.toNatClampNeg v) a i = _
  rw [mUp_eq, hx]
  rfl
theorem mJ_no {V : mV} {a b : Nat} {x : Int32} {v : Int64} (h : b ≠ a) : (mJ V a x v).rJ b = V.rJ b := mUp_ne _ _ h
def stD (V : mV) (n : Nat) (α : Nat → Int) (B : Nat → Nat → Int) (P : Nat → Int) : Prop := V.fI 6 3 = nI n ∧ (∀ i, i < n → V.rJ 60 i = jO (α i)) ∧ (∀ i k, i < 4 → k < 4 → V.rJ (56 + i) k = jO (B i k)) ∧ ∀ k, k < 4 → V.rJ 54 k = jO (P k)
theorem stD_c {V : mV} {n : Nat} {α α' : Nat → Int} {B B' : Nat → Nat → Int} {P P' : Nat → Int} (h : stD V n α B P) (hα : ∀ i, i < n → α i = α' i) (hB : ∀ i k, i < 4 → k < 4 → B i k = B' i k) (hP : ∀ k, k < 4 → P k = P' k) : stD V n α' B' P' := ⟨h.1, fun i hi => by rw [← hα i hi]; exact h.2.1 i hi, fun i k hi hk => by rw [← hB i k hi hk]; exact h.2.2.1 i k hi hk, fun k hk => by rw [← hP k hk]; exact h.2.2.2 k hk⟩
/-- an amount is written -/
theorem stD_a {V : mV} {n j : Nat} {α : Nat → Int} {B : Nat → Nat → Int} {P : Nat → Int} {x : Int32} {v : Int64} {y : Int} (h : stD V n α B P) (ex : x = nI j) (hj : j < 4) (ev : v = jO y) : stD (mJ V 60 x v) n (fun i => if i = j then y else α i) B P := by
  subst ex
  refine ⟨h.1, fun i hi => ?_, fun i k hi hk => ?_, fun k hk => ?_⟩
  · show _ = jO (if i = j then y else α i)
    rw [mJ_at (nI_clamp (by omega))]
    by_cases e : i = j
    · rw [if_pos e, if_pos e, ev]
    · rw [if_neg e, if_neg e]
      exact h.2.1 i hi
  · rw [mJ_no (by omega)]
    exact h.2.2.1 i k hi hk
  · rw [mJ_no (by omega)]
    exact h.2.2.2 k hk
/-- a number of a row is written -/
theorem stD_b {V : mV} {n o j : Nat} {α : Nat → Int} {B : Nat → Nat → Int} {P : Nat → Int} {a : Nat} {x : Int32} {v : Int64} {y : Int} (h : stD V n α B P) (ea : a = 56 + o) (ho : o < 4) (ex : x = nI j) (hj : j < 4) (ev : v = jO y) : stD (mJ V a x v) n α (fun i k => if i = o ∧ k = j then y else B i k) P := by
  subst ex
  subst ea
  refine ⟨h.1, fun i hi => ?_, fun i k hi hk => ?_, fun k hk => ?_⟩
  · rw [mJ_no (by omega)]
    exact h.2.1 i hi
  · show _ = jO (if i = o ∧ k = j then y else B i k)
    by_cases e : i = o
    · subst e
      rw [mJ_at (nI_clamp (by omega))]
      by_cases f : k = j
      · rw [if_pos f, if_pos ⟨rfl, f⟩, ev]
      · rw [if_neg f, if_neg (fun z => f z.2)]
        exact h.2.2.1 i k hi hk
    · rw [mJ_no (by omega), if_neg (fun z => e z.1)]
      exact h.2.2.1 i k hi hk
  · rw [mJ_no (by omega)]
    exact h.2.2.2 k hk
/-- a number of the point is written -/
theorem stD_p {V : mV} {n j : Nat} {α : Nat → Int} {B : Nat → Nat → Int} {P : Nat → Int} {x : Int32} {v : Int64} {y : Int} (h : stD V n α B P) (ex : x = nI j) (hj : j < 4) (ev : v = jO y) : stD (mJ V 54 x v) n α B (fun k => if k = j then y else P k) := by
  subst ex
  refine ⟨h.1, fun i hi => ?_, fun i k hi hk => ?_, fun k hk => ?_⟩
  · rw [mJ_no (by omega)]
    exact h.2.1 i hi
  · rw [mJ_no (by omega)]
    exact h.2.2.1 i k hi hk
  · show _ = jO (if k = j then y else P k)
    rw [mJ_at (nI_clamp (by omega))]
    by_cases e : k = j
    · rw [if_pos e, if_pos e, ev]
    · rw [if_neg e, if_neg e]
      exact h.2.2.2 k hk
theorem tkA_up {o j i : Nat} {α : Nat → Int} (h : j ≠ o) : tkA (j + 1) o α i = if i = j then α j - (α j).tdiv (α o) * α o else tkA j o α i := by
  unfold tkA
  by_cases e : i = j
  · subst e
    rw [if_pos ⟨by omega, h⟩, if_pos rfl]
  · rw [if_neg e]
    by_cases f : i < j ∧ i ≠ o
    · rw [if_pos f, if_pos ⟨by omega, f.2⟩]
    · rw [if_neg f, if_neg (fun z => f ⟨by omega, z.2⟩)]
theorem tkB_up {o j i k : Nat} {α : Nat → Int} {B : Nat → Nat → Int} (h : j ≠ o) : tkB (j + 1) o α B i k = if i = j then B j k - (α j).tdiv (α o) * B o k else tkB j o α B i k := by
  unfold tkB
  by_cases e : i = j
  · subst e
    rw [if_pos ⟨by omega, h⟩, if_pos rfl]
  · rw [if_neg e]
    by_cases f : i < j ∧ i ≠ o
    · rw [if_pos f, if_pos ⟨by omega, f.2⟩]
    · rw [if_neg f, if_neg (fun z => f ⟨by omega, z.2⟩)]
theorem tkA_o {o j : Nat} {α : Nat → Int} : tkA j o α o = α o := if_neg (fun z => z.2 rfl)
theorem tkB_o {o j : Nat} {α : Nat → Int} {B : Nat → Nat → Int} {k : Nat} : tkB j o α B o k = B o k := if_neg (fun z => z.2 rfl)
theorem tkA_j {o j : Nat} {α : Nat → Int} : tkA j o α j = α j := if_neg (fun z => by omega)
theorem tkB_j {o j : Nat} {α : Nat → Int} {B : Nat → Nat → Int} {k : Nat} : tkB j o α B j k = B j k := if_neg (fun z => by omega)
theorem tkA_same {o i : Nat} {α : Nat → Int} : tkA (o + 1) o α i = tkA o o α i := by
  unfold tkA
  by_cases f : i < o ∧ i ≠ o
  · rw [if_pos f, if_pos ⟨by omega, f.2⟩]
  · rw [if_neg f, if_neg (fun z => f ⟨by omega, z.2⟩)]
theorem tkB_same {o i k : Nat} {α : Nat → Int} {B : Nat → Nat → Int} : tkB (o + 1) o α B i k = tkB o o α B i k := by
  unfold tkB
  by_cases f : i < o ∧ i ≠ o
  · rw [if_pos f, if_pos ⟨by omega, f.2⟩]
  · rw [if_neg f, if_neg (fun z => f ⟨by omega, z.2⟩)]
theorem T_takeFrom {F n o : Nat} {α : Nat → Int} {B : Nat → Nat → Int} {P : Nat → Int} {V : mV} (hF : 64 ≤ F) (hn : n ≤ 4) (ho : o < n) (h0 : α o ≠ 0) (hα : ∀ i, i < n → (α i).natAbs < 2 ^ 62) (hS : stD V n α B P) : mTo (mX8_takeFromOthers F (nI o) V) (fun p => stD p.2 n (tkA n o α) (tkB n o α B) P) := by
  have go : ∀ k', (∀ j (V : mV), (n - j) * 6 + 1 ≤ k' → j ≤ n → stD V n (tkA j o α) (tkB j o α B) P → mTo (mX8_takeFromOthers_go F k' 0 (nI o) (nI j) 0 0 V) (fun p => stD p.2 n (tkA n o α) (tkB n o α B) P)) ∧ (∀ j k (V : mV), (n - j - 1) * 6 + (4 - k) + 2 ≤ k' → j < n → j ≠ o → k ≤ 4 → stD V n (tkA (j + 1) o α) (fun i c => if i = j ∧ c < k then B j c - (α j).tdiv (α o) * B o c else tkB j o α B i c) P → mTo (mX8_takeFromOthers_go F k' 1 (nI o) (nI j) (jO ((α j).tdiv (α o))) (nI k) V) (fun p => stD p.2 n (tkA n o α) (tkB n o α B) P)) := by
    intro k'
    induction k' with
    | zero => exact ⟨fun j V h => by omega, fun j k V h => by omega⟩
    | succ x ih =>
      obtain ⟨ih0, ih1⟩ := ih
      refine ⟨fun j V h1 h2 hS => ?_, fun j k V h1 h2 h3 h4 hS => ?_⟩
      · rw [mX8_takeFromOthers_go, if_pos rfl]
        unfold mX8_takeFromOthers_b0
        refine mTo.le hS.1 rfl (by omega) (by omega) (fun z => mTo.ret ?_) (fun z => mTo.eqI rfl rfl (by omega) (by omega) (fun w => mTo.lt ?_) (fun w => ?_))
        · rw [show n = j by omega] at hS ⊢
          exact hS
        · subst w
          rw [nI_1]
          exact ih0 (j + 1) V (by omega) (by omega) (stD_c hS (fun i _ => tkA_same.symm) (fun i k _ _ => tkB_same.symm) (fun k _ => rfl))
        · have ao := hS.2.1 o ho
          have aj := hS.2.1 j z
          rw [tkA_o] at ao
          rw [tkA_j] at aj
          rw [nI_clamp (n := o) (by omega), nI_clamp (n := j) (by omega), ao, aj]
          have b0 := hα o ho
          refine mTo.ic rfl (by omega) (by omega) (mTo.ite (fun y => absurd ((cmpZ b0).mp y) h0) (fun _ => mTo.ic rfl (by omega) (by omega) (mTo.ic rfl (by omega) (by omega) (mTo.ite (fun y => absurd ((jO_z b0).mp y) h0) (fun _ => mTo.lt (mTo.ic rfl (by omega) (by omega) (mTo.ic rfl (by omega) (by omega) (mTo.ic rfl (by omega) (by omega) (mTo.lt ?_)))))))))
          rw [jO_div (hα j z) b0]
          refine ih1 j 0 _ (by omega) z w (by omega) ?_
          refine stD_c (stD_a hS rfl (by omega) (by rw [jO_mul, jO_sub])) (fun i _ => (tkA_up w).symm) (fun i k _ _ => ?_) (fun k _ => rfl)
          rw [if_neg (by omega)]
      · rw [mX8_takeFromOthers_go, if_neg (by decide), if_pos rfl]
        unfold mX8_takeFromOthers_b1
        refine mTo.le (a := 4) rfl rfl (by omega) (by omega) (fun z => mTo.lt ?_) (fun z => mTo.ix rfl (by omega) (by omega) (mTo.ix rfl (by omega) (by omega) (mTo.ix rfl (by omega) (by omega) (mTo.ix rfl (by omega) (by omega) (mTo.ix rfl (by omega) (by omega) (mTo.lt (mTo.lt ?_)))))))
        · rw [nI_1]
          refine ih0 (j + 1) V (by omega) (by omega) (stD_c hS (fun i _ => rfl) (fun i c _ hc => ?_) (fun k _ => rfl))
          rw [tkB_up h3]
          by_cases e : i = j
          · rw [if_pos ⟨e, by omega⟩, if_pos e]
          · rw [if_neg (fun z => e z.1), if_neg e]
        · have bo : _ = jO (if o = j ∧ k < k then B j k - (α j).tdiv (α o) * B o k else tkB j o α B o k) := hS.2.2.1 o k (by omega) z
          have bj : _ = jO (if j = j ∧ k < k then B j k - (α j).tdiv (α o) * B o k else tkB j o α B j k) := hS.2.2.1 j k (by omega) z
          rw [if_neg (by omega), tkB_o] at bo
          rw [if_neg (by omega), tkB_j] at bj
          rw [nI_1, nI_clamp (n := o) (by omega), nI_clamp (n := j) (by omega), nI_clamp (n := k) (by omega), bo, bj]
          refine ih1 j (k + 1) _ (by omega) h2 h3 (by omega) ?_
          refine stD_c (stD_b hS (a := 56 + j) (o := j) rfl (by omega) rfl z (by rw [jO_mul, jO_sub])) (fun i _ => rfl) (fun i c _ hc => ?_) (fun k _ => rfl)
          by_cases e : i = j ∧ c = k
          · rw [if_pos e, if_pos ⟨e.1, by omega⟩, e.2]
          · rw [if_neg e]
            by_cases f : i = j ∧ c < k
            · rw [if_pos f, if_pos ⟨f.1, by omega⟩]
            · rw [if_neg f, if_neg (fun y => by omega)]
  unfold mX8_takeFromOthers mX8_takeFromOthers_s
  refine (go F).1 0 V (by omega) (Nat.zero_le _) (stD_c hS (fun i _ => ?_) (fun i k _ _ => ?_) (fun k _ => rfl))
  · exact (if_neg (by omega)).symm
  · exact (if_neg (by omega)).symm
end
