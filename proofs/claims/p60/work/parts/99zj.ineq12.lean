/-! THE PURE PART, inequalities: the machine's table; who leaves, where a label stands. -/
section
theorem cmplt {x y : Int} (hx : x.natAbs < 2 ^ 62) (hy : y.natAbs < 2 ^ 62) : lg_cmp (jO x) (jO y) < 0 ↔ x < y := by
  rw [← Int32.not_le, cmpge hx hy]
  omega
theorem cmple0 {x : Int} (hx : x.natAbs < 2 ^ 62) : lg_cmp (jO x) 0 ≤ 0 ↔ x ≤ 0 := by
  have h := lg_cmp_le2 (x := x) (y := 0) hx (show (0 : Int).natAbs < 2 ^ 62 by decide)
  rw [jO_0] at h
  exact h
/-- the cells hold the table -/
def lpM (V : mV) (R C : Nat) (S : lpS) : Prop := V.fI 4 4 = nI R ∧ V.fI 4 5 = nI C ∧ V.fJ 4 6 = jO (sL S) ∧ V.fI 4 3 = nI (sK S) ∧ (∀ r c, r ≤ R → c ≤ C → V.rJ (36 + r) c = jO (sT S r c)) ∧ (∀ r, r < R → V.rI 50 r = nI (sR S r)) ∧ ∀ c, c < C → V.rI 51 c = nI (sC S c)
/-- sizes -/
def lpB (R C : Nat) (S : lpS) : Prop := R ≤ 13 ∧ C ≤ 17 ∧ (∀ r c, r ≤ R → c ≤ C → (sT S r c).natAbs < 2 ^ 30) ∧ 0 < sL S ∧ (sL S).natAbs < 2 ^ 30 ∧ sK S < 2 ^ 30 ∧ (∀ r, r < R → sR S r < 30) ∧ ∀ c, c < C → sC S c < 30
def opI : Option Nat → Int32
  | none => -1
  | some r => nI r
theorem b60 {x y : Int} (hx : x.natAbs < 2 ^ 30) (hy : y.natAbs < 2 ^ 30) : (x * y).natAbs < 2 ^ 60 := by
  rw [Int.natAbs_mul]
  have := Nat.mul_le_mul (Nat.le_of_lt_succ (show x.natAbs < (2 ^ 30 - 1) + 1 by omega)) (Nat.le_of_lt_succ (show y.natAbs < (2 ^ 30 - 1) + 1 by omega))
  omega
theorem T_leavingRow {F R C col : Nat} {S : lpS} {V : mV} (hF : 64 ≤ F) (hM : lpM V R C S) (hB : lpB R C S) (hc : col < C) : mX5_leavingRow F (nI col) V = some (opI (lvR S C col R)) := by
  obtain ⟨b1, b2, b3, _, _, _, b7, _⟩ := hB
  obtain ⟨m1, m2, m3, m4, m5, m6, m7⟩ := hM
  have go : ∀ k' r, R - r + 1 ≤ k' → r ≤ R → mTo (mX5_leavingRow_go F k' 0 (nI col) (opI (lvR S C col r)) (nI r) V) (fun v => v = opI (lvR S C col R)) := by
    intro k'
    induction k' with
    | zero => exact fun r h => by omega
    | succ k ih =>
      intro r h1 h2
      rw [mX5_leavingRow_go, if_pos rfl]
      unfold mX5_leavingRow_b0
      refine mTo.le m1 rfl (by omega) (by omega) (fun z => mTo.ret (by rw [show r = R by omega])) (fun z => mTo.ix rfl (by omega) (by omega) (mTo.ix rfl (by omega) (by omega) ?_))
      have t1 := b3 r col (by omega) (by omega)
      have ih := ih (r + 1) (by omega) (by omega)
      rw [lvR] at ih
      rw [nI_clamp (n := r) (by omega), nI_clamp (n := col) (by omega), m5 r col (by omega) (by omega)]
      refine mTo.ite (fun y => mTo.lt ?_) (fun y => mTo.lt ?_)
      · have y := (cmple0 (by omega)).mp y
        rw [if_neg (by omega)] at ih
        rw [nI_1]
        exact ih
      · have y : 0 < sT S r col := Int.not_le.mp fun w => y ((cmple0 (by omega)).mpr w)
        obtain ⟨o, e7, ho⟩ : ∃ o, (if opI (lvR S C col r) < (0 : Int32) then (0 : Int32) else opI (lvR S C col r)) = nI o ∧ o < R ∧ (∀ o', lvR S C col r = some o' → o' = o) := by
          cases q : lvR S C col r with
          | none => exact ⟨0, rfl, by omega, fun o' h => by cases h⟩
          | some o' =>
            have := ((lv_sp (S := S) (C := C) (col := col) r).1 o' q).1
            refine ⟨o', ?_, by omega, fun o2 h => by cases h; rfl⟩
            show (if nI o' < (0 : Int32) then (0 : Int32) else nI o') = nI o'
            rw [if_neg (nI_pos (by omega))]
        obtain ⟨ho, hoo⟩ := ho
        rw [e7, m2, nI_clamp (n := C) (by omega), nI_clamp (n := o) (by omega)]
        refine mTo.ic rfl (by omega) (by omega) (mTo.ic rfl (by omega) (by omega) (mTo.ic rfl (by omega) (by omega) (mTo.ic rfl (by omega) (by omega) (mTo.lt (mTo.ic rfl (by omega) (by omega) (mTo.ic rfl (by omega) (by omega) (mTo.ic rfl (by omega) (by omega) (mTo.ic rfl (by omega) (by omega) (mTo.lt ?_)))))))))
        rw [m5 r C (by omega) (by omega), m5 o col (by omega) (by omega), m5 o C (by omega) (by omega), jO_mul, jO_mul]
        have p1 := b60 (b3 r C (by omega) (by omega)) (b3 o col (by omega) (by omega))
        have p2 := b60 (b3 o C (by omega) (by omega)) (b3 r col (by omega) (by omega))
        cases q : lvR S C col r with
        | none =>
          rw [q, if_pos ⟨y, fun o h => by cases h⟩] at ih
          refine mTo.ite (fun w => mTo.lt ?_) (fun w => absurd (show (-1 : Int32) < 0 from lt_m1) w)
          rw [nI_1]
          exact ih
        | some o' =>
          have eo := hoo o' q
          subst eo
          rw [q] at ih
          refine mTo.ite (fun w => absurd w (nI_pos (by omega))) (fun _ => mTo.ite (fun w => mTo.lt ?_) (fun w => mTo.ite (fun x => mTo.ic rfl (by omega) (by omega) (mTo.ic rfl (by omega) (by omega) ?_)) (fun x => mTo.lt ?_)))
          · have w := (cmplt (by omega) (by omega)).mp w
            rw [if_pos ⟨y, fun o h => by cases h; exact Or.inl w⟩] at ih
            rw [nI_1]
            exact ih
          · have x := (cmp0 (by omega) (by omega)).mp x
            rw [m6 r z, m6 o' ho]
            have l1 := b7 r z
            have l2 := b7 o' ho
            refine mTo.le rfl rfl (by omega) (by omega) (fun u => mTo.lt ?_) (fun u => mTo.lt ?_)
            · rw [if_neg (fun h => by
                have := h.2 o' rfl
                omega)] at ih
              rw [nI_1]
              exact ih
            · rw [if_pos ⟨y, fun o h => by cases h; exact Or.inr ⟨x, u⟩⟩] at ih
              rw [nI_1]
              exact ih
          · have w : ¬ sT S r C * sT S o' col < sT S o' C * sT S r col := fun h => w ((cmplt (by omega) (by omega)).mpr h)
            have x : ¬ sT S r C * sT S o' col = sT S o' C * sT S r col := fun h => x ((cmp0 (by omega) (by omega)).mpr h)
            rw [if_neg (fun h => by
              have := h.2 o' rfl
              omega)] at ih
            rw [nI_1]
            exact ih
  unfold mX5_leavingRow mX5_leavingRow_s
  obtain ⟨v, h1, h2⟩ := go F 0 (by omega) (Nat.zero_le _)
  rw [h2] at h1
  exact h1
theorem T_rowOf {F R C l : Nat} {S : lpS} {V : mV} (hF : 64 ≤ F) (hM : lpM V R C S) (hB : lpB R C S) (hl : l < 30) : mX5_rowOf F (nI l) V = some (opI (rwF S l R)) := by
  obtain ⟨b1, b2, b3, _, _, _, b7, _⟩ := hB
  obtain ⟨m1, m2, m3, m4, m5, m6, m7⟩ := hM
  have stay : ∀ d r x, rwF S l r = some x → rwF S l (r + d) = some x := fun d => by
    induction d with
    | zero => exact fun r x h => h
    | succ d ih =>
      intro r x h
      rw [show r + (d + 1) = r + d + 1 by omega, rwF, ih r x h]
  have go : ∀ k' r, R - r + 1 ≤ k' → r ≤ R → rwF S l r = none → mTo (mX5_rowOf_go F k' 0 (nI l) (nI r) V) (fun v => v = opI (rwF S l R)) := by
    intro k'
    induction k' with
    | zero => exact fun r h => by omega
    | succ k ih =>
      intro r h1 h2 h3
      rw [mX5_rowOf_go, if_pos rfl]
      unfold mX5_rowOf_b0
      refine mTo.le m1 rfl (by omega) (by omega) (fun z => mTo.ret (by rw [← show r = R by omega, h3]; rfl)) (fun z => mTo.ix rfl (by omega) (by omega) ?_)
      have l1 := b7 r z
      have n1 : rwF S l (r + 1) = if sR S r = l then some r else none := by
        rw [rwF, h3]
      rw [nI_clamp (n := r) (by omega), m6 r z]
      refine mTo.eqI rfl rfl (by omega) (by omega) (fun y => mTo.ret ?_) (fun y => mTo.lt ?_)
      · rw [if_pos y] at n1
        have := stay (R - (r + 1)) (r + 1) r n1
        rw [show r + 1 + (R - (r + 1)) = R by omega] at this
        rw [this]
        rfl
      · rw [if_neg y] at n1
        rw [nI_1]
        exact ih (r + 1) (by omega) (by omega) n1
  unfold mX5_rowOf mX5_rowOf_s
  obtain ⟨v, h1, h2⟩ := go F 0 (by omega) (Nat.zero_le _) rfl
  rw [h2] at h1
  exact h1
theorem T_valueOf {F R C l : Nat} {S : lpS} {V : mV} (hF : 64 ≤ F) (hM : lpM V R C S) (hB : lpB R C S) (hl : l < 30) : mX5_valueOf F (nI l) V = some (jO (vlS S R C l)) := by
  have key : mTo (mX5_valueOf F (nI l) V) (fun v => v = jO (vlS S R C l)) := by
    unfold mX5_valueOf
    refine mTo.so (T_rowOf hF hM hB hl) ?_
    unfold vlS
    cases q : rwF S l R with
    | none =>
      exact mTo.ite (fun w => absurd (show (0 : Int32) ≤ -1 from w) (by decide)) (fun _ => mTo.ret rfl)
    | some r =>
      have := ((rwF_sp R).1 r q).1
      have b1 := hB.1
      have b2 := hB.2.1
      refine mTo.ite (fun _ => mTo.ix (c := r) rfl (by omega) (by omega) (mTo.ix (c := C) hM.2.1 (by omega) (by omega) (mTo.ret ?_))) (fun w => absurd (Int32.not_lt.mp (nI_pos (n := r) (by omega))) w)
      rw [hM.2.1]
      show V.rJ (36 + (nI r).toNatClampNeg) (nI C).toNatClampNeg = jO (sT S r C)
      rw [nI_clamp (n := r) (by omega), nI_clamp (n := C) (by omega)]
      exact hM.2.2.2.2.1 r C (by omega) (Nat.le_refl _)
  obtain ⟨v, h1, h2⟩ := key
  rw [h2] at h1
  exact h1
end
