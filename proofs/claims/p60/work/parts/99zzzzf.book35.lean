/-! THE LAW: a step is taken. -/
section
theorem nI_div {a b : Nat} (ha : a < 2 ^ 30) (hb : 1 < b) (hb2 : b < 2 ^ 30) : nI a / nI b = nI (a / b) := by
  have eb : (nI b).toInt = (b : Int) := nI_toInt (by omega)
  have ne : nI b ≠ -1 := fun c => by
    have := congrArg Int32.toInt c
    rw [eb] at this
    have e : (-1 : Int32).toInt = -1 := rfl
    omega
  have lt : a / b < 2 ^ 30 := Nat.lt_of_le_of_lt (Nat.div_le_self a b) ha
  apply Int32.toInt_inj.mp
  rw [Int32.toInt_div_of_ne_right _ _ ne, nI_toInt (by omega), eb, nI_toInt (by omega), Int.tdiv_eq_ediv_of_nonneg (by omega)]
  rfl
theorem nI_rem {a b : Nat} (ha : a < 2 ^ 30) (hb : 0 < b) (hb2 : b < 2 ^ 30) : nI a - nI a / nI b * nI b = nI (a % b) := by
  have lt : a % b < b := Nat.mod_lt _ hb
  rw [irem_eq_mod]
  apply Int32.toInt_inj.mp
  rw [i32rem (by rw [nI_toInt (by omega)]; omega), nI_toInt (by omega), nI_toInt (by omega), nI_toInt (by omega)]
  rfl
theorem stepR.wk {Ln Ln2 : Nat → Nat} {c c' n j : Nat} {Q : Nat → qT} {is : Int64} {L : Nat → Nat} {V : mV} (h : stepR Ln2 c n j Q is L V) (h1 : Ln2 3000 + c ≤ Ln 3000 + c') (h2 : Ln2 3001 = Ln 3001) : stepR Ln c' n j Q is L V := by
  rcases h with ⟨a, b, d, e, f⟩ | ⟨a, b, d, e⟩
  · exact Or.inl ⟨a, b, d, by omega, by rw [f, h2]⟩
  · exact Or.inr ⟨a, b, by omega, by rw [e, h2]⟩
theorem T_b2m {G : wkG} {F n k : Nat} {Q : Nat → qT} {Ln : Nat → Nat} {V : mV} {rec : Nat → (Nat → Nat) → Int32 → Int32 → Int32 → Int32 → Int32 → Int64 → Int32 → Int64 → mV → Option (Int32 × (Nat → Nat) × mV)} {R : Int32 × (Nat → Nat) × mV → Prop} (hL : G.1 9 ≤ 260) (hF : 2 ^ 34 ≤ F) (hI : bST Ln V n Q) (hn : 0 < n) (hp : Qs (Q 100) = 1) (hk : k < 14) (hT : Ln 3000 + 6 < 5000) (K : ∀ j v L0 V0 is L V1, j < n → bST L0 V0 n Q → L0 3000 ≤ Ln 3000 → L0 3001 = Ln 3001 → stepR L0 4 n j Q is L V1 → mTo (rec 3 L (nI n) (nI k) v (nI j) 0 (csQ Q n) 0 is V1) R) : mTo (mL_law_b2 G F rec Ln (nI n) (nI k) V) R := by
  have n12 := hI.1.1.2.1
  unfold mL_law_b2
  refine mTo.le (a := 14) rfl rfl (by decide) (by omega) (fun z => by omega) (fun _ => ?_)
  rw [show (60 : Int32) = nI 60 from rfl, nI_add]
  refine mTo.N (T_drawn hL (by rw [nI_toInt (by omega)]; exact Int.natCast_nonneg _) (by decide)) (fun v _ h => ?_)
  obtain ⟨x, ex, x1⟩ := dr_nat (N := 1000000) h.1 h.2 (by decide)
  rw [ex, if_neg (fun c => by
    have := (nI_eq (a := n) (b := 0) (by omega) (by omega)).mp c
    omega)]
  refine mTo.lt ?_
  rw [nI_rem (by omega) hn (by omega)]
  have hj : x % n < n := Nat.mod_lt _ hn
  obtain ⟨j, ej⟩ : ∃ j, j = x % n := ⟨_, rfl⟩
  rw [← ej] at hj ⊢
  refine mTo.A (T_checksum hF hI.1) (fun v2 L2 V2 _ h => ?_)
  obtain ⟨c1, c2⟩ := h
  have c1 : v2 = csQ Q n := c1
  have c2 : lkP Ln V n Q L2 V2 := c2
  have I2 := lkP.st hI c2
  have t2 := c2.1.th
  rw [c1]
  have K2 : ∀ is L V1 c (Lx : Nat → Nat), Lx 3000 + c ≤ Ln 3000 + 4 → Lx 3001 = Ln 3001 → stepR Lx c n j Q is L V1 → mTo (rec 3 L (nI n) (nI k) (nI x) (nI j) 0 (csQ Q n) 0 is V1) R := fun is L V1 c Lx h1 h2 h => K j (nI x) L2 V2 is L V1 hj I2 (by omega) t2.2 (h.wk (by omega) (by rw [h2, t2.2]))
  have m16 := (I2.1.1.2.2.1 j hj).2.1.m16
  have k12 := (I2.1.1.2.2.1 j hj).2.1.1
  refine mTo.ite (fun _ => ?_) (fun _ => ?_)
  · rw [show (800 : Int32) = nI 800 from rfl, show (9 : Int32) = nI 9 from rfl, nI_mulC, nI_add]
    exact mTo.A (T_wrPs hL hF I2 hj (by omega) (by omega)) (fun is L V1 _ h => K2 is L V1 2 L2 (by omega) t2.2 h)
  refine mTo.ite (fun _ => ?_) (fun _ => ?_)
  · refine mTo.A (T_items (G := G) (F := F) (Ln := L2) I2.1.1 hj) (fun v3 L3 V3 _ h => ?_)
    cases h
    refine mTo.ite (fun _ => K2 _ L2 V2 0 L2 (by omega) t2.2 (Or.inr ⟨by decide, I2, by omega, rfl⟩)) (fun ne => ?_)
    have m0 : Qm (Q j) ≠ 0 := fun c => ne (by rw [c]; decide)
    refine mTo.A (T_items (G := G) (F := F) (Ln := L2) I2.1.1 hj) (fun v4 L4 V4 _ h => ?_)
    cases h
    rw [i64_32, if_neg (show ¬ nI (Qm (Q j)) = 0 from fun c => m0 ((nI_eq (a := Qm (Q j)) (b := 0) (by omega) (by omega)).mp c)), show (80 : Int32) = nI 80 from rfl, nI_div (by omega) (by omega) (by omega), nI_rem (by omega) (by omega) (by omega), show (800 : Int32) = nI 800 from rfl, show (9 : Int32) = nI 9 from rfl, nI_mulC, nI_add]
    exact mTo.A (T_wrC hL hF I2 hj (Nat.mod_lt _ (by omega)) (by omega) (by omega)) (fun is L V1 _ h => K2 is L V1 2 L2 (by omega) t2.2 h)
  refine mTo.ite (fun _ => ?_) (fun _ => ?_)
  · rw [show (80 : Int32) = nI 80 from rfl, show (3 : Int32) = nI 3 from rfl, nI_div (by omega) (by omega) (by omega), nI_rem (by omega) (by omega) (by omega)]
    exact mTo.A (T_dropS hF I2 hj (by omega) (by omega)) (fun is L V1 _ h => K2 is L V1 1 L2 (by omega) t2.2 h)
  refine mTo.ite (fun _ => ?_) (fun _ => ?_)
  · refine mTo.A (T_kindOf (G := G) (F := F) (Ln := L2) I2.1.1 hj) (fun v3 L3 V3 _ h => ?_)
    cases h
    rw [lt_back _ k12]
    refine T_iA (T_limitL k12 (show 2 < 4 by decide) (by omega)) ?_
    obtain ⟨L4, hL4⟩ : ∃ L4, L4 = va_up L2 3000 (L2 3000 + 1) := ⟨_, rfl⟩
    have u4 : L4 3000 = L2 3000 + 1 := by rw [hL4]; exact up_3000
    have w4 : L4 3001 = L2 3001 := by rw [hL4]; exact up_3001
    have I4 : bST L4 V2 n Q := by rw [hL4]; exact I2.th
    rw [← hL4]
    refine mTo.A (T_kindOf (G := G) (F := F) (Ln := L4) I4.1.1 hj) (fun v5 L5 V5 _ h => ?_)
    cases h
    rw [lt_back _ k12]
    refine T_iA (T_limitL k12 (show 3 < 4 by decide) (by omega)) ?_
    obtain ⟨L6, hL6⟩ : ∃ L6, L6 = va_up L4 3000 (L4 3000 + 1) := ⟨_, rfl⟩
    have u6 : L6 3000 = L4 3000 + 1 := by rw [hL6]; exact up_3000
    have w6 : L6 3001 = L4 3001 := by rw [hL6]; exact up_3001
    have I6 : bST L6 V2 n Q := by rw [hL6]; exact I4.th
    rw [← hL6]
    have l3 := (lim_s _ k12).2.2.2.1
    rw [if_neg (fun c => by rw [c] at l3; exact absurd l3 (by decide))]
    exact T_setBK (f := fun is L V1 => rec 3 L (nI n) (nI k) (nI x) (nI j) 0 (csQ Q n) 0 is V1) hF I6 hj (by omega) (fun is L V1 h => K2 is L V1 1 L6 (by omega) (by rw [w6, w4, t2.2]) h)
  refine mTo.ite (fun _ => ?_) (fun _ => ?_)
  · rw [if_neg (fun c => by
      have := (nI_eq (a := n) (b := 0) (by omega) (by omega)).mp c
      omega), show (80 : Int32) = nI 80 from rfl, nI_div (by omega) (by omega) (by omega), nI_rem (by omega) hn (by omega)]
    exact T_leanK (f := fun is L V1 => rec 3 L (nI n) (nI k) (nI x) (nI j) 0 (csQ Q n) 0 is V1) hF I2 hj (Nat.mod_lt _ hn) (by omega) (fun is L V1 h => K2 is L V1 1 L2 (by omega) t2.2 h)
  refine mTo.ite (fun _ => ?_) (fun _ => ?_)
  · exact T_standK (f := fun is L V1 => rec 3 L (nI n) (nI k) (nI x) (nI j) 0 (csQ Q n) 0 is V1) hF I2 hj (by omega) (fun is L V1 h => K2 is L V1 1 L2 (by omega) t2.2 h)
  refine mTo.ite (fun _ => ?_) (fun _ => ?_)
  · exact T_claimN (f := fun L V1 => rec 3 L (nI n) (nI k) (nI x) (nI j) 0 (csQ Q n) 0 (-4000000000000000000 : Int64) V1) hF I2 hj hp (by omega) (fun L V1 h => K2 _ L V1 2 L2 (by omega) t2.2 (Or.inr ⟨by decide, h⟩))
  · exact T_claimO (f := fun L V1 => rec 3 L (nI n) (nI k) (nI x) (nI j) 0 (csQ Q n) 0 (-4000000000000000000 : Int64) V1) hF I2 hj hp (by omega) (fun L V1 h => K2 _ L V1 2 L2 (by omega) t2.2 (Or.inr ⟨by decide, h⟩))
end
