/-! THE LAW: a new entry is drawn. -/
section
theorem T_iA {α β γ δ : Type} {o : Option (α × β × γ)} {a : α} {b : β} {c : γ} {f : α → β → γ → Option δ} {R : δ → Prop} (e : o = some (a, b, c)) (k : mTo (f a b c) R) : mTo (mBA o f) R := by
  rw [e]
  exact k
theorem dr_nat {v : Int32} {N : Nat} (h0 : 0 ≤ v.toInt) (h1 : v.toInt < (N : Int)) (hN : N < 2 ^ 20) : ∃ x, v = nI x ∧ x < N := ⟨v.toInt.toNat, Int32.toInt_inj.mp (by rw [nI_toInt (by omega)]; omega), by omega⟩
theorem T_b0 {G : wkG} {F i n : Nat} {Q : Nat → qT} {Ln : Nat → Nat} {V : mV} {rec : Nat → (Nat → Nat) → Int32 → Int32 → Int32 → Int32 → Int32 → Int64 → Int32 → Int64 → mV → Option (Int32 × (Nat → Nat) × mV)} {R : Int32 × (Nat → Nat) × mV → Prop} (hL : G.1 9 ≤ 260) (hF : 2 ^ 34 ≤ F) (hI : bST Ln V i Q) (hi : i < n) (hn : n < 12) (hp : Qs (Q 100) = 0) (hT : Ln 3000 + 4 < 5000) (K : ∀ L2 V2 Q2 m, m ≤ 12 → bST L2 V2 (i + 1) Q2 → Qs (Q2 100) = 0 → Qm (Q2 i) = 0 → L2 3000 = Ln 3000 + 4 → L2 3001 = Ln 3001 → mTo (rec 1 L2 (nI n) (nI i) 0 0 (nI m) 0 (0 : Int32) 0 V2) R) : mTo (mL_law_b0 G F rec Ln (nI n) (nI i) V) R := by
  unfold mL_law_b0
  refine mTo.le rfl rfl (by omega) (by omega) (fun z => by omega) (fun _ => ?_)
  rw [show (1 : Int32) = nI 1 from rfl, show (10 : Int32) = nI 10 from rfl, show (20 : Int32) = nI 20 from rfl, show (30 : Int32) = nI 30 from rfl, nI_add, nI_add, nI_add, nI_add]
  have pos : ∀ x, x < 2 ^ 20 → 0 ≤ (nI x).toInt := fun x hx => by rw [nI_toInt (by omega)]; exact Int.natCast_nonneg _
  refine mTo.N (T_drawn hL (pos _ (by omega)) (by decide)) (fun v _ h => ?_)
  obtain ⟨kd, e1, k12⟩ := dr_nat (N := 12) h.1 h.2 (by decide)
  obtain ⟨_, l1, _, l3, _⟩ := lim_s kd k12
  rw [e1]
  refine T_iN (kd_l k12) ?_
  refine T_iA (T_limitL k12 (show 0 < 4 by decide) (by omega)) ?_
  have u1 : (va_up Ln 3000 (Ln 3000 + 1)) 3000 = Ln 3000 + 1 := up_3000
  obtain ⟨L1, hL1⟩ : ∃ L1, L1 = va_up Ln 3000 (Ln 3000 + 1) := ⟨_, rfl⟩
  rw [← hL1] at u1 ⊢
  have I1 : bST L1 V i Q := by rw [hL1]; exact hI.th
  have w1 : L1 3001 = Ln 3001 := by rw [hL1]; exact up_3001
  refine T_iA (T_limitL k12 (show 1 < 4 by decide) (by omega)) ?_
  refine mTo.N (T_drawn hL (pos _ (by omega)) l1) (fun v2 _ h2 => mTo.lt ?_)
  obtain ⟨s, s1, s2, s3⟩ := dr_size k12 h2.1 h2.2
  obtain ⟨L2, hL2⟩ : ∃ L2, L2 = va_up L1 3000 (L1 3000 + 1) := ⟨_, rfl⟩
  have u2 : L2 3000 = L1 3000 + 1 := by rw [hL2]; exact up_3000
  have w2 : L2 3001 = L1 3001 := by rw [hL2]; exact up_3001
  have I2 : bST L2 V i Q := by rw [hL2]; exact I1.th
  rw [← hL2, s1]
  refine T_iA (T_limitL k12 (show 2 < 4 by decide) (by omega)) ?_
  obtain ⟨L3, hL3⟩ : ∃ L3, L3 = va_up L2 3000 (L2 3000 + 1) := ⟨_, rfl⟩
  have u3 : L3 3000 = L2 3000 + 1 := by rw [hL3]; exact up_3000
  have w3 : L3 3001 = L2 3001 := by rw [hL3]; exact up_3001
  have I3 : bST L3 V i Q := by rw [hL3]; exact I2.th
  rw [← hL3]
  refine T_iA (T_limitL k12 (show 3 < 4 by decide) (by omega)) ?_
  obtain ⟨L4, hL4⟩ : ∃ L4, L4 = va_up L3 3000 (L3 3000 + 1) := ⟨_, rfl⟩
  have u4 : L4 3000 = L3 3000 + 1 := by rw [hL4]; exact up_3000
  have w4 : L4 3001 = L3 3001 := by rw [hL4]; exact up_3001
  have I4 : bST L4 V i Q := by rw [hL4]; exact I3.th
  rw [← hL4]
  refine mTo.N (T_drawn hL (pos _ (by omega)) l3) (fun v3 _ h3 => ?_)
  refine mTo.A (T_open hF I4 (by omega) k12 s2 s3 (dr_bnd k12 h3.1 h3.2)) (fun v4 L5 V5 _ h => ?_)
  obtain ⟨o1, o2, o3⟩ := h
  have o1 : v4 = Int32.toInt64 (nI i) := o1
  have o3 : L5 = L4 := o3
  rw [o1, if_pos ((lg_cmp_eq _ _).mpr rfl)]
  refine mTo.N (T_drawn hL (pos _ (by omega)) (by decide)) (fun v5 _ h5 => ?_)
  obtain ⟨m, e5, m13⟩ := dr_nat (N := 13) h5.1 h5.2 (by decide)
  rw [e5]
  exact K L5 V5 _ m (by omega) o2 (by rw [mUp_ne _ _ (show (100 : Nat) ≠ i by omega)]; exact hp) (by rw [mUp_eq]; rfl) (by rw [o3]; omega) (by rw [o3]; omega)
end
