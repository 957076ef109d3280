/-! THE PURE PART, roots: what the chain is. -/
section
theorem frZ_sp (l0 l1 l2 l3 : Int) : ∃ g x0 x1 x2 x3 : Int, 0 < g ∧ frZ [l0, l1, l2, l3] = [x0, x1, x2, x3] ∧ l0 = g * x0 ∧ l1 = g * x1 ∧ l2 = g * x2 ∧ l3 = g * x3 := by
  obtain ⟨G, hG⟩ : ∃ G, G = gcZ [l0, l1, l2, l3] := ⟨_, rfl⟩
  by_cases h : G ≤ 1
  · refine ⟨1, l0, l1, l2, l3, by omega, ?_, by omega, by omega, by omega, by omega⟩
    unfold frZ
    rw [← hG, if_pos h]
  · have d3 : G ∣ l3.natAbs := by rw [hG]; exact Nat.gcd_dvd_right _ _
    have d : G ∣ Nat.gcd (Nat.gcd l0.natAbs l1.natAbs) l2.natAbs := by rw [hG]; exact Nat.gcd_dvd_left _ _
    have d2 : G ∣ l2.natAbs := Nat.dvd_trans d (Nat.gcd_dvd_right _ _)
    have d' := Nat.dvd_trans d (Nat.gcd_dvd_left _ _)
    have d1 : G ∣ l1.natAbs := Nat.dvd_trans d' (Nat.gcd_dvd_right _ _)
    have d0 : G ∣ l0.natAbs := Nat.dvd_trans d' (Nat.gcd_dvd_left _ _)
    have k : ∀ x : Int, G ∣ x.natAbs → x = (G : Int) * x.tdiv G := fun x hx => (Int.mul_tdiv_cancel' (Int.natAbs_dvd_natAbs.mp (by rw [Int.natAbs_natCast]; exact hx))).symm
    refine ⟨G, l0.tdiv G, l1.tdiv G, l2.tdiv G, l3.tdiv G, by omega, ?_, k _ d0, k _ d1, k _ d2, k _ d3⟩
    unfold frZ
    rw [← hG, if_neg h]
    rfl
theorem frZ_c {c : Int} (h : c ≠ 0) : frZ [c, 0, 0, 0] = [sgZ c, 0, 0, 0] := by
  have hg : gcZ [c, 0, 0, 0] = c.natAbs := by
    show Nat.gcd (Nat.gcd (Nat.gcd c.natAbs 0) 0) 0 = _
    rw [Nat.gcd_zero_right, Nat.gcd_zero_right, Nat.gcd_zero_right]
  unfold frZ
  rw [hg]
  by_cases e : c.natAbs ≤ 1
  · rw [if_pos e]
    have : c = 1 ∨ c = -1 := by omega
    rcases this with rfl | rfl <;> rfl
  · rw [if_neg e]
    show [c.tdiv c.natAbs, (0 : Int).tdiv c.natAbs, (0 : Int).tdiv c.natAbs, (0 : Int).tdiv c.natAbs] = _
    rw [Int.zero_tdiv]
    have : c.tdiv c.natAbs = sgZ c := by
      have e2 : c = sgZ c * c.natAbs := by
        rw [← sgZ_ab, ← Int.mul_assoc, sgZ_sq, Int.one_mul]
      have e3 : ((c.natAbs : Nat) : Int) ≠ 0 := by omega
      exact Int.tdiv_eq_of_eq_mul_left e3 e2
    rw [this]
theorem dv_nab {g x l : Int} {m : Nat} (hg : 0 < g) (h : l = g * x) (hl : l.natAbs ≤ m) : x.natAbs ≤ m := by
  rw [h, Int.natAbs_mul] at hl
  have : 1 * x.natAbs ≤ g.natAbs * x.natAbs := Nat.mul_le_mul_right _ (by omega)
  omega
theorem sml4 {m : Nat} {x0 x1 x2 x3 : Int} (h0 : x0.natAbs ≤ m) (h1 : x1.natAbs ≤ m) (h2 : x2.natAbs ≤ m) (h3 : x3.natAbs ≤ m) : sml m [x0, x1, x2, x3] := by
  intro k hk
  rcases (by omega : k = 0 ∨ k = 1 ∨ k = 2 ∨ k = 3) with rfl | rfl | rfl | rfl
  · exact h0
  · exact h1
  · exact h2
  · exact h3
theorem sgZ_sml (c : Int) : sml 1048576 [sgZ c, 0, 0, 0] := by
  have := sgZ_1 c
  exact sml4 (by omega) (by decide) (by decide) (by decide)
theorem mulc {c x y : Int} (hc : c ≠ 0) (h : c * x = c * y) : x = y := Int.eq_of_mul_eq_mul_left hc h
theorem sg_pos {x y : Int} (h : 0 < x * y) : 0 < sgZ x * y := by
  unfold sgZ
  by_cases e : x < 0
  · rw [if_pos e]
    rcases Int.lt_or_le y 0 with z | z
    · omega
    · have := Int.mul_nonneg (show 0 ≤ -x by omega) z
      rw [Int.neg_mul] at this
      omega
  · rw [if_neg e]
    rcases Int.lt_or_le 0 y with z | z
    · omega
    · have := Int.mul_nonneg (show 0 ≤ x by omega) (show 0 ≤ -y by omega)
      rw [Int.mul_neg] at this
      omega
theorem sq_pos {x : Int} (h : x ≠ 0) : 0 < x * x := by
  rcases Int.lt_or_lt_of_ne h with z | z
  · have := Int.mul_pos (show 0 < -x by omega) (show 0 < -x by omega)
    rw [Int.neg_mul_neg] at this
    exact this
  · exact Int.mul_pos z z
theorem pos_of {c x : Int} (hc : 0 < c) (h : 0 < c * x) : 0 < x := by
  refine Int.not_le.mp fun z => ?_
  have := Int.mul_nonneg (show 0 ≤ c by omega) (show 0 ≤ -x by omega)
  rw [Int.mul_neg] at this
  omega
theorem al_q1 {u2 a3 o1 : Int} (i3 : u2 * u2 * a3 = o1 * u2) : u2 * o1 = u2 * (u2 * a3) := by grind
theorem al_q0 {u1 u2 a2 a3 o0 o1 : Int} (i2 : u2 * u2 * a2 = o0 * u2 + o1 * u1) (q1 : o1 = u2 * a3) : u2 * o0 = u2 * (u2 * a2 - a3 * u1) := by subst q1; grind
theorem al_w {a0 a1 a2 a3 H P Q : Int} (hH : H = a2 * a1 - 9 * a3 * a0) (P' : P = a2 * a2 - 3 * a3 * a1) (Q' : Q = 2 * a2 * a2 * a2 - 9 * a3 * a2 * a1 + 27 * a3 * a3 * a0) : 3 * a3 * H = 2 * P * a2 - Q := by subst hH P' Q'; grind
theorem al_k0 {a0 a1 a2 a3 u0 u1 u2 g l0 H : Int} (hH : H = a2 * a1 - 9 * a3 * a0) (e0 : a1 = g * u0) (e1 : 2 * a2 = g * u1) (e2 : 3 * a3 = g * u2) (i0 : u2 * u2 * a0 = (u2 * a2 - a3 * u1) * u0 + l0) : 9 * a3 * l0 = -(u2 * u2) * H := by
  have l : l0 = u2 * u2 * a0 - (u2 * a2 - a3 * u1) * u0 := by omega
  subst l hH
  have x1 : 9 * a3 * (u2 * u2 * a0 - (u2 * a2 - a3 * u1) * u0) = 9 * a3 * (u2 * u2 * a0) - 3 * (3 * a3) * u2 * a2 * u0 + (3 * a3) * (3 * a3) * u1 * u0 := by grind
  rw [x1, e2, e0]
  have x2 : g * u2 * (g * u2) * u1 * u0 = g * u2 * u2 * u0 * (g * u1) := by grind
  rw [x2, ← e1]
  grind
theorem al_k1 {a1 a2 a3 u0 u1 u2 g l1 P : Int} (P' : P = a2 * a2 - 3 * a3 * a1) (e0 : a1 = g * u0) (e1 : 2 * a2 = g * u1) (e2 : 3 * a3 = g * u2) (i1 : u2 * u2 * a1 = (u2 * a2 - a3 * u1) * u1 + u2 * a3 * u0 + l1) : 9 * a3 * l1 = -(u2 * u2) * (2 * P) := by
  have l : l1 = u2 * u2 * a1 - (u2 * a2 - a3 * u1) * u1 - u2 * a3 * u0 := by omega
  subst l P'
  have x1 : 2 * (9 * a3 * (u2 * u2 * a1 - (u2 * a2 - a3 * u1) * u1 - u2 * a3 * u0)) = 6 * (3 * a3) * (u2 * u2 * a1) - 3 * (3 * a3) * u2 * (2 * a2) * u1 + 2 * ((3 * a3) * (3 * a3)) * u1 * u1 - 2 * (3 * a3) * (3 * a3) * u2 * u0 := by grind
  have x2 : 2 * (-(u2 * u2) * (2 * (a2 * a2 - 3 * a3 * a1))) = -(u2 * u2) * ((2 * a2) * (2 * a2)) + 4 * (u2 * u2) * (3 * a3) * a1 := by grind
  have : 2 * (9 * a3 * (u2 * u2 * a1 - (u2 * a2 - a3 * u1) * u1 - u2 * a3 * u0)) = 2 * (-(u2 * u2) * (2 * (a2 * a2 - 3 * a3 * a1))) := by
    rw [x1, x2, e1, e2, e0]
    grind
  omega
theorem al_u {u1 u2 a2 a3 g : Int} (e1 : 2 * a2 = g * u1) (e2 : 3 * a3 = g * u2) : u2 * (2 * a2) = u1 * (3 * a3) := by rw [e1, e2]; grind
theorem al_u0 {u0 u2 a1 a3 g : Int} (e0 : a1 = g * u0) (e2 : 3 * a3 = g * u2) : u2 * a1 = u0 * (3 * a3) := by rw [e2, e0]; grind
theorem al_n {a3 l0 u2 H : Int} (k0 : 9 * a3 * l0 = -(u2 * u2) * H) : 9 * a3 * (-l0 * (3 * a3 * H)) = (u2 * u2) * (3 * a3) * (H * H) := by
  have : 9 * a3 * (-l0 * (3 * a3 * H)) = -(9 * a3 * l0) * (3 * a3 * H) := by grind
  rw [this, k0]
  grind
theorem al_r0 {v0 v1 u1 u2 r0 r1 : Int} (j1 : v1 * v1 * u1 = r0 * v1 + r1 * v0) (y1 : r1 = v1 * u2) : v1 * r0 = v1 * (v1 * u1 - u2 * v0) := by subst y1; grind
theorem al_m0 {v0 v1 u0 u1 u2 m0 : Int} (j0 : v1 * v1 * u0 = (v1 * u1 - u2 * v0) * v0 + m0) : m0 = v1 * v1 * u0 - v0 * v1 * u1 + v0 * v0 * u2 := by grind
theorem al_v {a3 g2 v l u2 X : Int} (f : -l = g2 * v) (k : 9 * a3 * l = -(u2 * u2) * X) : 9 * a3 * g2 * v = (u2 * u2) * X := by
  have : 9 * a3 * g2 * v = -(9 * a3 * l) := by
    have : 9 * a3 * g2 * v = 9 * a3 * (g2 * v) := by grind
    rw [this, ← f]
    grind
  rw [this, k]
  grind
theorem al_main {a1 a2 a3 g g2 u0 u1 u2 v0 v1 m0 P Q H : Int} (e0 : a1 = g * u0) (e1 : 2 * a2 = g * u1) (e2 : 3 * a3 = g * u2) (P' : P = a2 * a2 - 3 * a3 * a1) (hw : 3 * a3 * H = 2 * P * a2 - Q) (m0e : m0 = v1 * v1 * u0 - v0 * v1 * u1 + v0 * v0 * u2) (w1 : 9 * a3 * g2 * v1 = (u2 * u2) * (2 * P)) (w0 : 9 * a3 * g2 * v0 = (u2 * u2) * H) : 3 * a3 * g * ((9 * a3 * g2) * (9 * a3 * g2)) * m0 = -((u2 * u2) * (u2 * u2)) * (4 * P * P * P - Q * Q) := by
  have s1 : g * ((9 * a3 * g2) * (9 * a3 * g2)) * m0 = ((u2 * u2) * (u2 * u2)) * (4 * P * P * a1 - 4 * P * H * a2 + 3 * a3 * (H * H)) := by
    have s0 : ((9 * a3 * g2) * (9 * a3 * g2)) * m0 = (9 * a3 * g2 * v1) * (9 * a3 * g2 * v1) * u0 - (9 * a3 * g2 * v0) * (9 * a3 * g2 * v1) * u1 + (9 * a3 * g2 * v0) * (9 * a3 * g2 * v0) * u2 := by
      rw [m0e]
      clear m0e w1 w0 e0 e1 e2 P' hw
      grind
    rw [Int.mul_assoc, s0, w1, w0]
    have a1e : 4 * P * P * a1 = 4 * P * P * (g * u0) := by rw [← e0]
    have a2e : 4 * P * H * a2 = 2 * P * H * (g * u1) := by
      rw [← e1]
      clear m0e w1 w0 e0 e1 e2 P' hw s0 a1e
      grind
    rw [a1e, a2e, e2]
    clear m0e w1 w0 e0 e1 e2 P' hw s0 a1e a2e
    grind
  have s2 : 3 * a3 * (4 * P * P * a1 - 4 * P * H * a2 + 3 * a3 * (H * H)) = -(4 * P * P * P - Q * Q) := by
    have s3 : 3 * a3 * (4 * P * P * a1 - 4 * P * H * a2 + 3 * a3 * (H * H)) = 4 * P * P * (3 * a3 * a1) - 4 * P * a2 * (3 * a3 * H) + (3 * a3 * H) * (3 * a3 * H) := by
      clear m0e w1 w0 e0 e1 e2 P' hw s1
      grind
    have s4 : 3 * a3 * a1 = a2 * a2 - P := by omega
    rw [s3, hw, s4]
    clear m0e w1 w0 e0 e1 e2 P' hw s1 s3 s4
    grind
  have s5 : 3 * a3 * g * ((9 * a3 * g2) * (9 * a3 * g2)) * m0 = 3 * a3 * (g * ((9 * a3 * g2) * (9 * a3 * g2)) * m0) := by
    clear m0e w1 w0 e0 e1 e2 P' hw s1 s2
    grind
  have s6 : 3 * a3 * (u2 * u2 * (u2 * u2) * (4 * P * P * a1 - 4 * P * H * a2 + 3 * a3 * (H * H))) = (u2 * u2 * (u2 * u2)) * (3 * a3 * (4 * P * P * a1 - 4 * P * H * a2 + 3 * a3 * (H * H))) := by
    clear m0e w1 w0 e0 e1 e2 P' hw s1 s2 s5
    grind
  rw [s5, s1, s6, s2]
  clear m0e w1 w0 e0 e1 e2 P' hw s1 s2 s5 s6
  grind
theorem al_p {a3 g2 v1 u2 P : Int} (w1 : 9 * a3 * g2 * v1 = (u2 * u2) * (2 * P)) : 9 * a3 * g2 * (v1 * P) = 2 * ((u2 * u2) * (P * P)) := by
  rw [← Int.mul_assoc, w1]
  grind
theorem al_x {a3 g2 v0 v1 u2 P H : Int} (w1 : 9 * a3 * g2 * v1 = (u2 * u2) * (2 * P)) (w0 : 9 * a3 * g2 * v0 = (u2 * u2) * H) : 9 * a3 * g2 * (v1 * (3 * a3 * H)) = 9 * a3 * g2 * (v0 * (6 * a3 * P)) := by
  have x1 : 9 * a3 * g2 * (v1 * (3 * a3 * H)) = (9 * a3 * g2 * v1) * (3 * a3 * H) := by
    clear w1 w0
    grind
  have x0 : 9 * a3 * g2 * (v0 * (6 * a3 * P)) = (9 * a3 * g2 * v0) * (6 * a3 * P) := by
    clear w1 w0 x1
    grind
  rw [x1, x0, w1, w0]
  clear w1 w0 x1 x0
  grind
theorem al_d {a m u d : Int} (h : a * m = -u * d) : a * (-m * d) = u * (d * d) := by
  have : a * (-m * d) = -(a * m) * d := by grind
  rw [this, h]
  grind
/-- of a cubic -/
theorem ch3 {a0 a1 a2 a3 : Int} (h3 : a3 ≠ 0) (ha : a0.natAbs ≤ 7 ∧ a1.natAbs ≤ 7 ∧ a2.natAbs ≤ 7 ∧ a3.natAbs ≤ 7) (hd : dlt [a0, a1, a2, a3] ≠ 0) : ∃ ch e, chZ [a0, a1, a2, a3] 3 = some ch ∧ lsZ ch = ([e, 0, 0, 0], 0) ∧ (e = 1 ∨ e = -1) ∧ (0 < a3 → ok3 ch ∨ ok4 ch) := by
  obtain ⟨g, u0, u1, u2, u3, g0, hu, e0, e1, e2, e3⟩ := frZ_sp a1 (2 * a2) (3 * a3) 0
  have z3 : u3 = 0 := by
    rcases Int.mul_eq_zero.mp e3.symm with y | y
    · omega
    · exact y
  subst z3
  have hdr : drZ [a0, a1, a2, a3] = [u0, u1, u2, 0] := hu
  have nu2 : u2 ≠ 0 := fun z => by
    rw [z, Int.mul_zero] at e2
    omega
  have b0 := dv_nab (m := 21) g0 e0 (by omega)
  have b1 := dv_nab (m := 21) g0 e1 (by omega)
  have b2 := dv_nab (m := 21) g0 e2 (by omega)
  obtain ⟨l0, l1, o0, o1, ⟨O, hdv⟩, n0, n1, i0, i1, i2, i3⟩ := dv32 (b3 := 0) nu2 ha ⟨b0, b1, b2⟩
  have q1 : o1 = u2 * a3 := mulc nu2 (al_q1 i3)
  have q0 : o0 = u2 * a2 - a3 * u1 := mulc nu2 (al_q0 i2 q1)
  obtain ⟨P, hP⟩ : ∃ P, P = Pz [a0, a1, a2, a3] := ⟨_, rfl⟩
  obtain ⟨Q, hQ⟩ : ∃ Q, Q = Qz [a0, a1, a2, a3] := ⟨_, rfl⟩
  obtain ⟨H, hH⟩ : ∃ H, H = a2 * a1 - 9 * a3 * a0 := ⟨_, rfl⟩
  have P' : P = a2 * a2 - 3 * a3 * a1 := hP
  have Q' : Q = 2 * a2 * a2 * a2 - 9 * a3 * a2 * a1 + 27 * a3 * a3 * a0 := hQ
  have D' : dlt [a0, a1, a2, a3] = 4 * P * P * P - Q * Q := by
    unfold dlt
    rw [← hP, ← hQ]
  have hw : 3 * a3 * H = 2 * P * a2 - Q := al_w hH P' Q'
  have k0 : 9 * a3 * l0 = -(u2 * u2) * H := al_k0 hH e0 e1 e2 (by rw [← q0]; exact i0)
  have k1 : 9 * a3 * l1 = -(u2 * u2) * (2 * P) := al_k1 P' e0 e1 e2 (by rw [← q0, ← q1]; exact i1)
  have uu := sq_pos nu2
  have s4 : sm4 [l0, l1, 0, 0] = true := by
    unfold sm4
    show (sm62 l0 && sm62 l1 && sm62 0 && sm62 0) = true
    rw [sm62_ok (show l0.natAbs < 2 ^ 62 by omega), sm62_ok (show l1.natAbs < 2 ^ 62 by omega)]
    decide
  have ng : ngZ [l0, l1, 0, 0] = [-l0, -l1, -0, -0] := rfl
  by_cases hp : P = 0
  · have l1z : l1 = 0 := by
      rw [hp, Int.mul_zero, Int.mul_zero] at k1
      rcases Int.mul_eq_zero.mp k1 with y | y
      · omega
      · exact y
    have Hn : H ≠ 0 := fun z => hd (by
      rw [z, hp, Int.mul_zero, Int.mul_zero, Int.zero_mul] at hw
      rw [D', hp, show Q = 0 by omega]
      rfl)
    have l0n : l0 ≠ 0 := fun z => by
      rw [z, Int.mul_zero] at k0
      rcases Int.mul_eq_zero.mp k0.symm with y | y
      · omega
      · exact Hn y
    have fr : frZ (ngZ [l0, l1, 0, 0]) = [sgZ (-l0), 0, 0, 0] := by
      rw [ng, l1z]
      exact frZ_c (by omega)
    have cc : ccZ 3 [a0, a1, a2, a3] 3 [u0, u1, u2, 0] 2 = some [([sgZ (-l0), 0, 0, 0], 0)] := by
      rw [ccZ, if_neg (by decide), hdv]
      show (if sm4 [l0, l1, 0, 0] = true then _ else _) = _
      rw [if_pos s4]
      have dg : dgZ [l0, l1, 0, 0] = 1 := by
        rw [l1z]
        simp [dgZ, gZ, l0n]
      rw [dg]
      show (match ccZ 2 [u0, u1, u2, 0] 2 (frZ (ngZ [l0, l1, 0, 0])) 0 with
        | none => none
        | some r => some ((frZ (ngZ [l0, l1, 0, 0]), 0) :: r)) = _
      rw [ccZ, if_pos rfl, fr]
    refine ⟨[([a0, a1, a2, a3], 3), ([u0, u1, u2, 0], 2), ([sgZ (-l0), 0, 0, 0], 0)], sgZ (-l0), ?_, rfl, ?_, fun a3p => Or.inr ⟨_, _, _, rfl, a3p, ?_, ?_, ?_, ?_, ?_, ?_, ?_, ?_⟩⟩
    · unfold chZ
      rw [if_neg (by decide), hdr, cc]
    · have := sgZ_1 (-l0)
      omega
    · exact pos_of g0 (show 0 < g * u2 by rw [← e2]; omega)
    · exact al_u e1 e2
    · exact al_u0 e0 e2
    · rw [← hP]
      exact hp
    · rw [← hQ]
      show sgZ (-l0) * Q < 0
      have : 0 < -l0 * -Q := by
        refine pos_of (show 0 < 9 * a3 by omega) ?_
        have qe : -Q = 3 * a3 * H := by
          rw [hp, Int.mul_zero, Int.zero_mul] at hw
          omega
        rw [qe, al_n k0]
        exact Int.mul_pos (Int.mul_pos uu (by omega)) (sq_pos Hn)
      have := sg_pos this
      rw [Int.mul_neg] at this
      omega
    · exact sml4 ha.1 ha.2.1 ha.2.2.1 ha.2.2.2
    · exact sml4 (by omega) (by omega) (by omega) (by decide)
    · exact sgZ_sml _
  · have l1n : l1 ≠ 0 := fun z => by
      rw [z, Int.mul_zero] at k1
      rcases Int.mul_eq_zero.mp k1.symm with y | y
      · omega
      · omega
    obtain ⟨g2, v0, v1, v2, v3, p2, hv, f0, f1, f2, f3⟩ := frZ_sp (-l0) (-l1) (-0) (-0)
    have zv2 : v2 = 0 := by
      rcases Int.mul_eq_zero.mp f2.symm with y | y
      · omega
      · exact y
    have zv3 : v3 = 0 := by
      rcases Int.mul_eq_zero.mp f3.symm with y | y
      · omega
      · exact y
    subst zv2
    subst zv3
    have nv1 : v1 ≠ 0 := fun z => by
      rw [z, Int.mul_zero] at f1
      omega
    have c0 := dv_nab (m := 20000) p2 f0 (by omega)
    have c1 := dv_nab (m := 20000) p2 f1 (by omega)
    obtain ⟨m0, r0, r1, ⟨O2, hdv2⟩, t0, j0, j1, j2⟩ := dv21 (m := 21) (n := 20000) (a0 := u0) (a1 := u1) (a2 := u2) (b2 := 0) (b3 := 0) nv1 ⟨b0, b1, b2⟩ ⟨c0, c1⟩ (by decide) (by decide)
    have y1 : r1 = v1 * u2 := mulc nv1 (al_q1 j2)
    have y0 : r0 = v1 * u1 - u2 * v0 := mulc nv1 (al_r0 j1 y1)
    have m0e : m0 = v1 * v1 * u0 - v0 * v1 * u1 + v0 * v0 * u2 := al_m0 (by rw [← y0]; exact j0)
    have w1 : 9 * a3 * g2 * v1 = (u2 * u2) * (2 * P) := al_v f1 k1
    have w0 : 9 * a3 * g2 * v0 = (u2 * u2) * H := al_v f0 k0
    have main := al_main e0 e1 e2 P' hw m0e w1 w0
    have uuuu : 0 < (u2 * u2) * (u2 * u2) := Int.mul_pos uu uu
    have m0n : m0 ≠ 0 := fun z => hd (by
      rw [z, Int.mul_zero] at main
      rw [D']
      rcases Int.mul_eq_zero.mp main.symm with y | y
      · omega
      · exact y)
    have fr : frZ (ngZ [l0, l1, 0, 0]) = [v0, v1, 0, 0] := hv
    have fr2 : frZ (ngZ [m0, 0, 0, 0]) = [sgZ (-m0), 0, 0, 0] := frZ_c (show -m0 ≠ 0 by omega)
    have s42 : sm4 [m0, 0, 0, 0] = true := by
      unfold sm4
      show (sm62 m0 && sm62 0 && sm62 0 && sm62 0) = true
      rw [sm62_ok (show m0.natAbs < 2 ^ 62 by omega)]
      decide
    have cc : ccZ 3 [a0, a1, a2, a3] 3 [u0, u1, u2, 0] 2 = some [([v0, v1, 0, 0], 1), ([sgZ (-m0), 0, 0, 0], 0)] := by
      rw [ccZ, if_neg (by decide), hdv]
      show (if sm4 [l0, l1, 0, 0] = true then _ else _) = _
      rw [if_pos s4]
      have dg : dgZ [l0, l1, 0, 0] = 2 := by simp [dgZ, gZ, l1n]
      rw [dg]
      show (match ccZ 2 [u0, u1, u2, 0] 2 (frZ (ngZ [l0, l1, 0, 0])) 1 with
        | none => none
        | some r => some ((frZ (ngZ [l0, l1, 0, 0]), 1) :: r)) = _
      rw [fr, ccZ, if_neg (by decide), hdv2]
      show (match (if sm4 [m0, 0, 0, 0] = true then _ else _) with
        | none => none
        | some r => some (([v0, v1, 0, 0], 1) :: r)) = _
      rw [if_pos s42]
      have dg2 : dgZ [m0, 0, 0, 0] = 1 := by simp [dgZ, gZ, m0n]
      rw [dg2]
      show (match (match ccZ 1 [v0, v1, 0, 0] 1 (frZ (ngZ [m0, 0, 0, 0])) 0 with
        | none => none
        | some r => some ((frZ (ngZ [m0, 0, 0, 0]), 0) :: r)) with
        | none => none
        | some r => some (([v0, v1, 0, 0], 1) :: r)) = _
      rw [fr2, ccZ, if_pos rfl]
    refine ⟨[([a0, a1, a2, a3], 3), ([u0, u1, u2, 0], 2), ([v0, v1, 0, 0], 1), ([sgZ (-m0), 0, 0, 0], 0)], sgZ (-m0), ?_, rfl, ?_, fun a3p => Or.inl ⟨_, _, _, _, rfl, a3p, ?_, ?_, ?_, ?_, ?_, ?_, ?_, ?_, ?_, ?_⟩⟩
    · unfold chZ
      rw [if_neg (by decide), hdr, cc]
    · have := sgZ_1 (-m0)
      omega
    · exact pos_of g0 (show 0 < g * u2 by rw [← e2]; omega)
    · exact al_u e1 e2
    · exact al_u0 e0 e2
    · rw [← hP]
      show 0 < v1 * P
      refine pos_of (show 0 < 9 * a3 * g2 from Int.mul_pos (by omega) p2) ?_
      rw [al_p w1]
      have := Int.mul_pos uu (sq_pos hp)
      omega
    · rw [← hP, ← hQ]
      show v1 * (2 * P * a2 - Q) = v0 * (6 * a3 * P)
      rw [← hw]
      refine mulc (c := 9 * a3 * g2) (Int.ne_of_gt (Int.mul_pos (by omega) p2)) ?_
      exact al_x w1 w0
    · show 0 < sgZ (-m0) * dlt [a0, a1, a2, a3]
      refine sg_pos ?_
      rw [D']
      have gg : 0 < 3 * a3 * g * ((9 * a3 * g2) * (9 * a3 * g2)) := Int.mul_pos (Int.mul_pos (by omega) g0) (Int.mul_pos (Int.mul_pos (by omega) p2) (Int.mul_pos (by omega) p2))
      refine pos_of gg ?_
      rw [al_d main]
      rw [D'] at hd
      exact Int.mul_pos uuuu (sq_pos hd)
    · exact sml4 ha.1 ha.2.1 ha.2.2.1 ha.2.2.2
    · exact sml4 (by omega) (by omega) (by omega) (by decide)
    · exact sml4 (by omega) (by omega) (by decide) (by decide)
    · exact sgZ_sml _
theorem al_l {a0 a1 a2 u0 u1 g l0 : Int} (e0 : a1 = g * u0) (e1 : 2 * a2 = g * u1) (l0e : l0 = u1 * u1 * a0 - u0 * u1 * a1 + u0 * u0 * a2) : g * g * l0 = -a2 * (a1 * a1 - 4 * a2 * a0) := by
  have x : g * g * l0 = (g * u1) * (g * u1) * a0 - (g * u0) * (g * u1) * a1 + (g * u0) * (g * u0) * a2 := by
    rw [l0e]
    clear l0e e0 e1
    grind
  rw [x, ← e0, ← e1]
  clear x l0e e0 e1
  grind
/-- of a square -/
theorem ch2 {a0 a1 a2 : Int} (h2 : a2 ≠ 0) (ha : a0.natAbs ≤ 7 ∧ a1.natAbs ≤ 7 ∧ a2.natAbs ≤ 7) (hd : dqz [a0, a1, a2, 0] ≠ 0) : ∃ ch e, chZ [a0, a1, a2, 0] 2 = some ch ∧ lsZ ch = ([e, 0, 0, 0], 0) ∧ (e = 1 ∨ e = -1) ∧ (0 < a2 → ok2 ch) := by
  obtain ⟨g, u0, u1, u2, u3, g0, hu, e0, e1, e2, e3⟩ := frZ_sp a1 (2 * a2) (3 * 0) 0
  have z3 : u3 = 0 := by
    rcases Int.mul_eq_zero.mp e3.symm with y | y
    · omega
    · exact y
  have z2 : u2 = 0 := by
    have e2 : 0 = g * u2 := e2
    rcases Int.mul_eq_zero.mp e2.symm with y | y
    · omega
    · exact y
  subst z3
  subst z2
  have hdr : drZ [a0, a1, a2, 0] = [u0, u1, 0, 0] := hu
  have nu1 : u1 ≠ 0 := fun z => by
    rw [z, Int.mul_zero] at e1
    omega
  have b0 := dv_nab (m := 14) g0 e0 (by omega)
  have b1 := dv_nab (m := 14) g0 e1 (by omega)
  obtain ⟨l0, o0, o1, ⟨O, hdv⟩, n0, i0, i1, i2⟩ := dv21 (m := 7) (n := 14) (b2 := 0) (b3 := 0) nu1 ha ⟨b0, b1⟩ (by decide) (by decide)
  have q1 : o1 = u1 * a2 := mulc nu1 (al_q1 i2)
  have q0 : o0 = u1 * a1 - a2 * u0 := mulc nu1 (al_r0 i1 q1)
  have l0e : l0 = u1 * u1 * a0 - u0 * u1 * a1 + u0 * u0 * a2 := al_m0 (by rw [← q0]; exact i0)
  have D' : dqz [a0, a1, a2, 0] = a1 * a1 - 4 * a2 * a0 := rfl
  have k := al_l e0 e1 l0e
  rw [← D'] at k
  have l0n : l0 ≠ 0 := fun z => by
    rw [z, Int.mul_zero] at k
    rcases Int.mul_eq_zero.mp k.symm with y | y
    · omega
    · exact hd y
  have s4 : sm4 [l0, 0, 0, 0] = true := by
    unfold sm4
    show (sm62 l0 && sm62 0 && sm62 0 && sm62 0) = true
    rw [sm62_ok (show l0.natAbs < 2 ^ 62 by omega)]
    decide
  have fr : frZ (ngZ [l0, 0, 0, 0]) = [sgZ (-l0), 0, 0, 0] := frZ_c (show -l0 ≠ 0 by omega)
  have cc : ccZ 3 [a0, a1, a2, 0] 2 [u0, u1, 0, 0] 1 = some [([sgZ (-l0), 0, 0, 0], 0)] := by
    rw [ccZ, if_neg (by decide), hdv]
    show (if sm4 [l0, 0, 0, 0] = true then _ else _) = _
    rw [if_pos s4]
    have dg : dgZ [l0, 0, 0, 0] = 1 := by simp [dgZ, gZ, l0n]
    rw [dg]
    show (match ccZ 2 [u0, u1, 0, 0] 1 (frZ (ngZ [l0, 0, 0, 0])) 0 with
      | none => none
      | some r => some ((frZ (ngZ [l0, 0, 0, 0]), 0) :: r)) = _
    rw [ccZ, if_pos rfl, fr]
  refine ⟨[([a0, a1, a2, 0], 2), ([u0, u1, 0, 0], 1), ([sgZ (-l0), 0, 0, 0], 0)], sgZ (-l0), ?_, rfl, ?_, fun a2p => ⟨_, _, _, rfl, a2p, ?_, ?_, ?_, ?_, ?_, ?_, ?_⟩⟩
  · unfold chZ
    rw [if_neg (by decide), hdr, cc]
  · have := sgZ_1 (-l0)
    omega
  · show a2 ≤ 4000
    omega
  · exact pos_of g0 (show 0 < g * u1 by rw [← e1]; omega)
  · show u1 * a1 = u0 * (2 * a2)
    rw [e1, e0]
    clear k l0e e0 e1
    grind
  · show 0 < sgZ (-l0) * dqz [a0, a1, a2, 0]
    refine sg_pos ?_
    refine pos_of (show 0 < g * g from Int.mul_pos g0 g0) ?_
    have : g * g * (-l0 * dqz [a0, a1, a2, 0]) = a2 * (dqz [a0, a1, a2, 0] * dqz [a0, a1, a2, 0]) := al_d k
    rw [this]
    exact Int.mul_pos a2p (sq_pos hd)
  · exact sml4 (by omega) (by omega) (by omega) (by decide)
  · exact sml4 (by omega) (by omega) (by decide) (by decide)
  · exact sgZ_sml _
theorem sc_3 {c p0 p1 p2 p3 a0 a1 a2 a3 : Int} (h0 : a0 = c * p0) (h1 : a1 = c * p1) (h2 : a2 = c * p2) (h3 : a3 = c * p3) : dlt [a0, a1, a2, a3] = c * c * c * c * c * c * dlt [p0, p1, p2, p3] := by
  show 4 * (a2 * a2 - 3 * a3 * a1) * (a2 * a2 - 3 * a3 * a1) * (a2 * a2 - 3 * a3 * a1) - (2 * a2 * a2 * a2 - 9 * a3 * a2 * a1 + 27 * a3 * a3 * a0) * (2 * a2 * a2 * a2 - 9 * a3 * a2 * a1 + 27 * a3 * a3 * a0) = c * c * c * c * c * c * (4 * (p2 * p2 - 3 * p3 * p1) * (p2 * p2 - 3 * p3 * p1) * (p2 * p2 - 3 * p3 * p1) - (2 * p2 * p2 * p2 - 9 * p3 * p2 * p1 + 27 * p3 * p3 * p0) * (2 * p2 * p2 * p2 - 9 * p3 * p2 * p1 + 27 * p3 * p3 * p0))
  subst h0 h1 h2 h3
  grind
theorem sc_2 {c p0 p1 p2 a0 a1 a2 : Int} (h0 : a0 = c * p0) (h1 : a1 = c * p1) (h2 : a2 = c * p2) : dqz [a0, a1, a2, 0] = c * c * dqz [p0, p1, p2, 0] := by
  show a1 * a1 - 4 * a2 * a0 = c * c * (p1 * p1 - 4 * p2 * p0)
  subst h0 h1 h2
  grind
/-- the chain of each polynomial -/
theorem bc_all {a b c d : Int} (ha : a.natAbs ≤ 7) (hb : b.natAbs ≤ 7) (hc : c.natAbs ≤ 7) (hd : d.natAbs ≤ 7) : ∃ ch, bcZ [d, c, b, a] = some ch ∧ okC ch := by
  rcases chkR_all ha hb hc hd with h | h
  · have plain : ∀ (e : Int) (n : Nat), (e = 1 ∨ e = -1) → n ≤ 3 → gZ [d, c, b, a] n ≠ 0 → (n < 3 → a = 0) → (n < 2 → b = 0) → (n < 1 → c = 0) → ∃ s p0 p1 p2 p3, s ≠ 0 ∧ fsZ [d, c, b, a] n [e, 0, 0, 0] 0 = some ([p0, p1, p2, p3], n) ∧ d = s * p0 ∧ c = s * p1 ∧ b = s * p2 ∧ a = s * p3 ∧ 0 < gZ [p0, p1, p2, p3] n := by
      intro e n he hn hz h3 h2 h1
      obtain ⟨L, hdv⟩ := dv_one (a0 := d) (a1 := c) (a2 := b) (a3 := a) he hn h3 h2 h1 ⟨hd, hc, hb, ha⟩
      have ne : e ≠ 0 := by omega
      have ee : e * e = 1 := by
        rcases he with rfl | rfl <;> rfl
      have small : ∀ x : Int, x.natAbs ≤ 7 → (x * e).natAbs < 2 ^ 62 := fun x hx => by
        have := nm hx (show e.natAbs ≤ 1 by omega)
        omega
      have s4 : sm4 [d * e, c * e, b * e, a * e] = true := by
        unfold sm4
        show (sm62 (d * e) && sm62 (c * e) && sm62 (b * e) && sm62 (a * e)) = true
        rw [sm62_ok (small _ hd), sm62_ok (small _ hc), sm62_ok (small _ hb), sm62_ok (small _ ha)]
        rfl
      have nz : ∀ x : Int, x ≠ 0 → x * e ≠ 0 := fun x hx => Int.mul_ne_zero hx ne
      have dg : dgZ [d * e, c * e, b * e, a * e] = n + 1 := by
        rcases (by omega : n = 0 ∨ n = 1 ∨ n = 2 ∨ n = 3) with rfl | rfl | rfl | rfl
        · have := nz d hz
          simp [dgZ, gZ, h3 (by omega), h2 (by omega), h1 (by omega), this]
        · have := nz c hz
          simp [dgZ, gZ, h3 (by omega), h2 (by omega), this]
        · have := nz b hz
          simp [dgZ, gZ, h3 (by omega), this]
        · have := nz a hz
          simp [dgZ, gZ, this]
      obtain ⟨t, ht⟩ : ∃ t, t = sgZ (gZ [d * e, c * e, b * e, a * e] n) := ⟨_, rfl⟩
      have tt : t * t = 1 := by rw [ht]; exact sgZ_sq _
      obtain ⟨g, x0, x1, x2, x3, g0, hf, f0, f1, f2, f3⟩ := frZ_sp (d * e * t) (c * e * t) (b * e * t) (a * e * t)
      have back : ∀ x y : Int, x * e * t = g * y → x = (e * t * g) * y := fun x y h => by
        have : x = x * (e * e) * (t * t) := by rw [ee, tt]; omega
        have e2 : x * (e * e) * (t * t) = (x * e * t) * (e * t) := by
          clear this h
          grind
        rw [this, e2, h]
        clear this e2 h
        grind
      have tn : t ≠ 0 := fun z => by
        rw [z] at tt
        exact absurd tt (by decide)
      refine ⟨e * t * g, x0, x1, x2, x3, Int.mul_ne_zero (Int.mul_ne_zero ne tn) (by omega), ?_, back _ _ f0, back _ _ f1, back _ _ f2, back _ _ f3, ?_⟩
      · unfold fsZ
        rw [hdv]
        show (if sm4 [d * e, c * e, b * e, a * e] = true then _ else _) = _
        rw [if_pos s4, dg, Nat.add_sub_cancel]
        show some (frZ (mulZ (sgZ (gZ [d * e, c * e, b * e, a * e] n)) [d * e, c * e, b * e, a * e]), n) = _
        rw [← ht]
        show some (frZ [d * e * t, c * e * t, b * e * t, a * e * t], n) = _
        rw [hf]
      · have ab := sgZ_ab (gZ [d * e, c * e, b * e, a * e] n)
        rw [← ht] at ab
        have nzn : gZ [d * e, c * e, b * e, a * e] n ≠ 0 := by
          rcases (by omega : n = 0 ∨ n = 1 ∨ n = 2 ∨ n = 3) with rfl | rfl | rfl | rfl
          · exact nz d hz
          · exact nz c hz
          · exact nz b hz
          · exact nz a hz
        refine pos_of g0 ?_
        have : g * gZ [x0, x1, x2, x3] n = t * gZ [d * e, c * e, b * e, a * e] n := by
          rcases (by omega : n = 0 ∨ n = 1 ∨ n = 2 ∨ n = 3) with rfl | rfl | rfl | rfl
          · show g * x0 = t * (d * e)
            rw [← f0, Int.mul_comm]
          · show g * x1 = t * (c * e)
            rw [← f1, Int.mul_comm]
          · show g * x2 = t * (b * e)
            rw [← f2, Int.mul_comm]
          · show g * x3 = t * (a * e)
            rw [← f3, Int.mul_comm]
        rw [this, ab]
        omega
    have red : ∀ {s p x : Int}, s ≠ 0 → x = s * p → x.natAbs ≤ 7 → p.natAbs ≤ 7 := fun {s p x} hs hx h7 => by
      rw [hx, Int.natAbs_mul] at h7
      have : 1 * p.natAbs ≤ s.natAbs * p.natAbs := Nat.mul_le_mul_right _ (by omega)
      omega
    by_cases a0 : a = 0
    · subst a0
      obtain ⟨b0, hD⟩ := spK_2 h
      obtain ⟨ch, e, h1, h2, h3, _⟩ := ch2 b0 ⟨hd, hc, hb⟩ (show c * c - 4 * b * d ≠ 0 from hD)
      obtain ⟨s, p0, p1, p2, p3, s0, k1, k2, k3, k4, k5, k6⟩ := plain e 2 h3 (by omega) b0 (fun _ => rfl) (fun y => absurd y (by omega)) (fun y => absurd y (by omega))
      have p3z : p3 = 0 := by
        rcases Int.mul_eq_zero.mp k5.symm with y | y
        · exact absurd y s0
        · exact y
      subst p3z
      have dq : dqz [p0, p1, p2, 0] ≠ 0 := fun z => hD (by
        have := sc_2 k2 k3 k4
        rw [z, Int.mul_zero] at this
        exact this)
      have k6 : 0 < p2 := k6
      obtain ⟨ch', e', g1, _, _, g4⟩ := ch2 (show p2 ≠ 0 by omega) ⟨red s0 k2 hd, red s0 k3 hc, red s0 k4 hb⟩ dq
      refine ⟨ch', ?_, Or.inr (Or.inr (Or.inr (Or.inl (g4 k6))))⟩
      unfold bcZ
      have dg : dgZ [d, c, b, 0] = 3 := by simp [dgZ, gZ, b0]
      rw [dg]
      show (match chZ [d, c, b, 0] 2 with
        | none => none
        | some ch => match fsZ [d, c, b, 0] 2 (lsZ ch).1 (lsZ ch).2 with
          | none => none
          | some (p, pd) => chZ p pd) = _
      rw [h1]
      show (match fsZ [d, c, b, 0] 2 (lsZ ch).1 (lsZ ch).2 with
          | none => none
          | some (p, pd) => chZ p pd) = _
      rw [h2]
      show (match fsZ [d, c, b, 0] 2 [e, 0, 0, 0] 0 with
          | none => none
          | some (p, pd) => chZ p pd) = _
      rw [k1]
      exact g1
    · have hD := spK_3 a0 h
      obtain ⟨ch, e, h1, h2, h3, _⟩ := ch3 a0 ⟨hd, hc, hb, ha⟩ hD
      obtain ⟨s, p0, p1, p2, p3, s0, k1, k2, k3, k4, k5, k6⟩ := plain e 3 h3 (by omega) a0 (fun y => absurd y (by omega)) (fun y => absurd y (by omega)) (fun y => absurd y (by omega))
      have dq : dlt [p0, p1, p2, p3] ≠ 0 := fun z => hD (by
        have := sc_3 k2 k3 k4 k5
        rw [z, Int.mul_zero] at this
        exact this)
      have k6 : 0 < p3 := k6
      obtain ⟨ch', e', g1, _, _, g4⟩ := ch3 (show p3 ≠ 0 by omega) ⟨red s0 k2 hd, red s0 k3 hc, red s0 k4 hb, red s0 k5 ha⟩ dq
      refine ⟨ch', ?_, Or.inr (Or.inr (Or.inr (Or.inr (g4 k6))))⟩
      unfold bcZ
      have dg : dgZ [d, c, b, a] = 4 := by simp [dgZ, gZ, a0]
      rw [dg]
      show (match chZ [d, c, b, a] 3 with
        | none => none
        | some ch => match fsZ [d, c, b, a] 3 (lsZ ch).1 (lsZ ch).2 with
          | none => none
          | some (p, pd) => chZ p pd) = _
      rw [h1]
      show (match fsZ [d, c, b, a] 3 (lsZ ch).1 (lsZ ch).2 with
          | none => none
          | some (p, pd) => chZ p pd) = _
      rw [h2]
      show (match fsZ [d, c, b, a] 3 [e, 0, 0, 0] 0 with
          | none => none
          | some (p, pd) => chZ p pd) = _
      rw [k1]
      exact g1
  · exact h
end
