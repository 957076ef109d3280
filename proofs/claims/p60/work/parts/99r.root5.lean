/-! THE PURE PART, roots: the chain at a point; it falls along the line. -/
section
def hvP (p : List Int) : Nat → Int → Int → Int
  | 0, _, _ => gZ p 0
  | 1, x, q => gZ p 1 * x + gZ p 0 * q
  | 2, x, q => gZ p 2 * (x * x) + gZ p 1 * (x * q) + gZ p 0 * (q * q)
  | _ + 3, x, q => gZ p 3 * (x * x * x) + gZ p 2 * (x * x * q) + gZ p 1 * (x * q * q) + gZ p 0 * (q * q * q)
def VX (ch : List (List Int × Nat)) (x q : Int) : Nat := vrN (ch.map fun c => sgI (hvP c.1 c.2 x q))
theorem sgI_mul2 {c d x y : Int} (hc : 0 < c) (hd : 0 < d) (h : c * x = d * y) : sgI x = sgI y := (sgI_mul hc h).trans (sgI_mul hd rfl).symm
theorem sgI_same {x y : Int} (h : 0 < x * y) : sgI x = sgI y := by
  rcases Int.lt_trichotomy x 0 with z | z | z
  · rcases Int.lt_or_le y 0 with w | w
    · rw [sgI_n z, sgI_n w]
    · have := Int.mul_nonneg (show 0 ≤ -x by omega) w
      rw [Int.neg_mul] at this
      omega
  · rw [z, Int.zero_mul] at h
    omega
  · rw [sgI_p z, sgI_p (pos_of z h)]
theorem vx1 {ch : List (List Int × Nat)} (h : ok1 ch) (x q : Int) : ∃ p : List Int, 0 < gZ p 1 ∧ VX ch x q = n01 (gZ p 1 * x + gZ p 0 * q < 0) := by
  obtain ⟨p, u, rfl, h1, h2, _⟩ := h
  refine ⟨p, h1, ?_⟩
  show vrN [sgI (gZ p 1 * x + gZ p 0 * q), sgI (gZ u 0)] = _
  rw [sgI_p h2]
  rcases Int.lt_trichotomy (gZ p 1 * x + gZ p 0 * q) 0 with w | w | w
  · rw [sgI_n w, n01_t w]; rfl
  · rw [w, n01_f (by decide)]; rfl
  · rw [sgI_p w, n01_f (by omega)]; rfl
theorem al_2a (a b c x q : Int) : 4 * a * (a * (x * x) + b * (x * q) + c * (q * q)) = (2 * a * x + b * q) * (2 * a * x + b * q) - q * q * (b * b - 4 * a * c) := by grind
theorem al_2b {a b u0 u1 x q : Int} (h : u1 * b = u0 * (2 * a)) : 2 * a * (u1 * x + u0 * q) = u1 * (2 * a * x + b * q) := by
  have e : u1 * (2 * a * x + b * q) = u1 * (2 * a * x) + (u1 * b) * q := by
    clear h
    grind
  rw [e, h]
  clear e h
  grind
theorem vx2 {p u v : List Int} (h1 : 0 < gZ p 2) (h3 : 0 < gZ u 1) (h4 : gZ u 1 * gZ p 1 = gZ u 0 * (2 * gZ p 2)) (h5 : 0 < gZ v 0 * dqz p) {x q : Int} (hq : 0 < q) : VX [(p, 2), (u, 1), (v, 0)] x q = if q * q * dqz p < 0 then 1 else N2 (q * q * dqz p) (2 * gZ p 2 * x + gZ p 1 * q) := by
  have qq := Int.mul_pos hq hq
  have dn : dqz p ≠ 0 := fun z => by
    rw [z, Int.mul_zero] at h5
    omega
  have s1 : sgI (hvP p 2 x q) = sgI ((2 * gZ p 2 * x + gZ p 1 * q) * (2 * gZ p 2 * x + gZ p 1 * q) - q * q * dqz p) := sgI_mul (show 0 < 4 * gZ p 2 by omega) (al_2a _ _ _ _ _)
  have s2 : sgI (hvP u 1 x q) = sgI (2 * gZ p 2 * x + gZ p 1 * q) := sgI_mul2 (show 0 < 2 * gZ p 2 by omega) h3 (al_2b h4)
  have s3 : sgI (hvP v 0 x q) = sgI (q * q * dqz p) := (sgI_same h5).trans (sgI_mul qq rfl)
  show vrN [sgI (hvP p 2 x q), sgI (hvP u 1 x q), sgI (hvP v 0 x q)] = _
  rw [s1, s2, s3]
  rcases Int.lt_or_le (q * q * dqz p) 0 with w | w
  · rw [if_pos w, v2_neg w]
  · have : q * q * dqz p ≠ 0 := Int.mul_ne_zero (by omega) dn
    rw [if_neg (by omega), v2_pos (by omega)]
theorem al_3a (a b c d x q : Int) : 27 * (a * a) * (a * (x * x * x) + b * (x * x * q) + c * (x * q * q) + d * (q * q * q)) = fi3 (q * q * (b * b - 3 * a * c)) (q * q * q * (2 * b * b * b - 9 * a * b * c + 27 * a * a * d)) (3 * a * x + b * q) := by
  unfold fi3
  grind
theorem al_3b {a b c u0 u1 u2 x q : Int} (h1 : u2 * (2 * b) = u1 * (3 * a)) (h0 : u2 * c = u0 * (3 * a)) : 9 * (a * a) * (u2 * (x * x) + u1 * (x * q) + u0 * (q * q)) = u2 * ((3 * a * x + b * q) * (3 * a * x + b * q) - q * q * (b * b - 3 * a * c)) := by
  have e1 : 9 * (a * a) * (u2 * (x * x) + u1 * (x * q) + u0 * (q * q)) = 9 * (a * a) * (u2 * (x * x)) + 3 * a * (u1 * (3 * a)) * (x * q) + 3 * a * (u0 * (3 * a)) * (q * q) := by
    clear h1 h0
    grind
  rw [e1, ← h1, ← h0]
  clear h1 h0 e1
  grind
theorem al_3c {a b P Q v0 v1 x q : Int} (h : v1 * (2 * P * b - Q) = v0 * (6 * a * P)) : (q * q * (6 * a * (P * P))) * (v1 * x + v0 * q) = (v1 * P) * (2 * (q * q * P) * (3 * a * x + b * q) - q * q * q * Q) := by
  have e1 : (q * q * (6 * a * (P * P))) * (v1 * x + v0 * q) = (q * q * (6 * a * (P * P))) * (v1 * x) + (q * q * P) * (v0 * (6 * a * P)) * q := by
    clear h
    grind
  rw [e1, ← h]
  clear h e1
  grind
theorem al_3d (P Q q : Int) : (q * q * q) * (q * q * q) * (4 * P * P * P - Q * Q) = 4 * (q * q * P) * (q * q * P) * (q * q * P) - (q * q * q * Q) * (q * q * q * Q) := by grind
theorem vx3 {p u v w : List Int} (h1 : 0 < gZ p 3) (h2 : 0 < gZ u 2) (h3 : gZ u 2 * (2 * gZ p 2) = gZ u 1 * (3 * gZ p 3)) (h4 : gZ u 2 * gZ p 1 = gZ u 0 * (3 * gZ p 3)) (h5 : 0 < gZ v 1 * Pz p) (h6 : gZ v 1 * (2 * Pz p * gZ p 2 - Qz p) = gZ v 0 * (6 * gZ p 3 * Pz p)) (h7 : 0 < gZ w 0 * dlt p) {x q : Int} (hq : 0 < q) : VX [(p, 3), (u, 2), (v, 1), (w, 0)] x q = if dlt p < 0 then 1 + n01 (fi3 (q * q * Pz p) (q * q * q * Qz p) (3 * gZ p 3 * x + gZ p 2 * q) < 0) else N3 (q * q * Pz p) (q * q * q * Qz p) (3 * gZ p 3 * x + gZ p 2 * q) := by
  have qq := Int.mul_pos hq hq
  have q6 := Int.mul_pos (Int.mul_pos qq hq) (Int.mul_pos qq hq)
  have a2 := Int.mul_pos h1 h1
  have pn : Pz p ≠ 0 := fun z => by
    rw [z, Int.mul_zero] at h5
    omega
  have dn : dlt p ≠ 0 := fun z => by
    rw [z, Int.mul_zero] at h7
    omega
  have de : dlt p = 4 * Pz p * Pz p * Pz p - Qz p * Qz p := rfl
  have s1 : sgI (hvP p 3 x q) = sgI (fi3 (q * q * Pz p) (q * q * q * Qz p) (3 * gZ p 3 * x + gZ p 2 * q)) := sgI_mul (show 0 < 27 * (gZ p 3 * gZ p 3) by omega) (al_3a _ _ _ _ _ _)
  have s2 : sgI (hvP u 2 x q) = sgI ((3 * gZ p 3 * x + gZ p 2 * q) * (3 * gZ p 3 * x + gZ p 2 * q) - q * q * Pz p) := sgI_mul2 (show 0 < 9 * (gZ p 3 * gZ p 3) by omega) h2 (al_3b h3 h4)
  have s3 : sgI (hvP v 1 x q) = sgI (2 * (q * q * Pz p) * (3 * gZ p 3 * x + gZ p 2 * q) - q * q * q * Qz p) := sgI_mul2 (show 0 < q * q * (6 * gZ p 3 * (Pz p * Pz p)) from Int.mul_pos qq (Int.mul_pos (by omega) (sq_pos pn))) h5 (al_3c h6)
  have s4 : sgI (hvP w 0 x q) = sgI (4 * (q * q * Pz p) * (q * q * Pz p) * (q * q * Pz p) - (q * q * q * Qz p) * (q * q * q * Qz p)) := (sgI_same h7).trans (sgI_mul q6 (by rw [de]; exact al_3d _ _ _))
  show vrN [sgI (hvP p 3 x q), sgI (hvP u 2 x q), sgI (hvP v 1 x q), sgI (hvP w 0 x q)] = _
  rw [s1, s2, s3, s4]
  have e := al_3d (Pz p) (Qz p) q
  rw [← de] at e
  rcases Int.lt_or_le (dlt p) 0 with y | y
  · rw [if_pos y, v3_neg]
    rw [← e]
    exact Int.mul_neg_of_pos_of_neg q6 y
  · rw [if_neg (by omega), v3_pos]
    rw [← e]
    exact Int.mul_pos q6 (by omega)
theorem v4_all {Q t : Int} (hQ : Q ≠ 0) : vrN [sgI (fi3 0 Q t), sgI (t * t), sgI (-Q)] = n01 (0 < Q) + n01 (fi3 0 Q t < 0) := by
  have fe : fi3 0 Q t = t * t * t + Q := by
    unfold fi3
    omega
  by_cases t0 : t = 0
  · subst t0
    rw [show (0 : Int) * 0 = 0 from rfl, sgI_0]
    have : fi3 0 Q 0 = Q := by
      rw [fe]
      omega
    rw [this]
    rcases Int.lt_or_lt_of_ne hQ with w | w
    · rw [sgI_n w, sgI_p (show 0 < -Q by omega), n01_f (by omega), n01_t w]; rfl
    · rw [sgI_p w, sgI_n (show -Q < 0 by omega), n01_t w, n01_f (by omega)]; rfl
  · rw [sgI_p (sq_pos t0)]
    rcases Int.lt_or_lt_of_ne hQ with w | w
    · rw [sgI_p (show 0 < -Q by omega), n01_f (show ¬ 0 < Q by omega)]
      rcases Int.lt_trichotomy (fi3 0 Q t) 0 with x | x | x
      · rw [sgI_n x, n01_t x]; rfl
      · rw [x, n01_f (by decide)]; rfl
      · rw [sgI_p x, n01_f (by omega)]; rfl
    · rw [sgI_n (show -Q < 0 by omega), n01_t w]
      rcases Int.lt_trichotomy (fi3 0 Q t) 0 with x | x | x
      · rw [sgI_n x, n01_t x]; rfl
      · rw [x, n01_f (by decide)]; rfl
      · rw [sgI_p x, n01_f (by omega)]; rfl
theorem vx4 {p u v : List Int} (h1 : 0 < gZ p 3) (h2 : 0 < gZ u 2) (h3 : gZ u 2 * (2 * gZ p 2) = gZ u 1 * (3 * gZ p 3)) (h4 : gZ u 2 * gZ p 1 = gZ u 0 * (3 * gZ p 3)) (h5 : Pz p = 0) (h6 : gZ v 0 * Qz p < 0) {x q : Int} (hq : 0 < q) : VX [(p, 3), (u, 2), (v, 0)] x q = n01 (0 < q * q * q * Qz p) + n01 (fi3 0 (q * q * q * Qz p) (3 * gZ p 3 * x + gZ p 2 * q) < 0) := by
  have qq := Int.mul_pos hq hq
  have q3 := Int.mul_pos qq hq
  have a2 := Int.mul_pos h1 h1
  have qn : Qz p ≠ 0 := fun z => by
    rw [z, Int.mul_zero] at h6
    omega
  have s1 : sgI (hvP p 3 x q) = sgI (fi3 0 (q * q * q * Qz p) (3 * gZ p 3 * x + gZ p 2 * q)) := sgI_mul (show 0 < 27 * (gZ p 3 * gZ p 3) by omega) (by
    have := al_3a (gZ p 3) (gZ p 2) (gZ p 1) (gZ p 0) x q
    rw [show gZ p 2 * gZ p 2 - 3 * gZ p 3 * gZ p 1 = 0 from h5, Int.mul_zero] at this
    exact this)
  have s2 : sgI (hvP u 2 x q) = sgI ((3 * gZ p 3 * x + gZ p 2 * q) * (3 * gZ p 3 * x + gZ p 2 * q)) := sgI_mul2 (show 0 < 9 * (gZ p 3 * gZ p 3) by omega) h2 (by
    have := al_3b (x := x) (q := q) h3 h4
    rw [show gZ p 2 * gZ p 2 - 3 * gZ p 3 * gZ p 1 = 0 from h5, Int.mul_zero, Int.sub_zero] at this
    exact this)
  have s3 : sgI (hvP v 0 x q) = sgI (-(q * q * q * Qz p)) := by
    refine (sgI_same (y := -Qz p) (by rw [Int.mul_neg]; show 0 < -(gZ v 0 * Qz p); omega)).trans (sgI_mul q3 ?_)
    rw [Int.mul_neg]
  show vrN [sgI (hvP p 3 x q), sgI (hvP u 2 x q), sgI (hvP v 0 x q)] = _
  rw [s1, s2, s3]
  exact v4_all (Int.mul_ne_zero (by omega) qn)
theorem f4_mono {Q t s : Int} (h : t < s) : fi3 0 Q t < fi3 0 Q s := by
  refine fi_up h ?_
  have a := sqn t
  have b := sqn s
  have c := sqn (t + s)
  have e : (t + s) * (t + s) = t * t + 2 * (t * s) + s * s := by
    clear a b c
    grind
  rcases Int.lt_or_le 0 (t * t + t * s + s * s) with v | v
  · omega
  · exfalso
    have t0 : t * t = 0 := by omega
    have s0 : s * s = 0 := by omega
    have : t = 0 := by
      rcases Int.mul_eq_zero.mp t0 with y | y <;> exact y
    have : s = 0 := by
      rcases Int.mul_eq_zero.mp s0 with y | y <;> exact y
    omega
/-- it falls along the line -/
theorem VX_mono {ch : List (List Int × Nat)} (h : okC ch) {x y q : Int} (hq : 0 < q) (hxy : x ≤ y) : VX ch y q ≤ VX ch x q := by
  by_cases e : x = y
  · rw [e]
    exact Nat.le_refl _
  have lt : x < y := by omega
  rcases h with rfl | ⟨c, rfl, _⟩ | h | ⟨p, u, v, rfl, h1, _, h3, h4, h5, _⟩ | ⟨p, u, v, w, rfl, h1, h2, h3, h4, h5, h6, h7, _⟩ | ⟨p, u, v, rfl, h1, h2, h3, h4, h5, h6, _⟩
  · exact Nat.le_refl _
  · exact Nat.le_refl _
  · obtain ⟨p, u, rfl, h1, h2, _⟩ := h
    have ex : ∀ x, VX [(p, 1), (u, 0)] x q = n01 (gZ p 1 * x + gZ p 0 * q < 0) := fun x => by
      show vrN [sgI (gZ p 1 * x + gZ p 0 * q), sgI (gZ u 0)] = _
      rw [sgI_p h2]
      rcases Int.lt_trichotomy (gZ p 1 * x + gZ p 0 * q) 0 with w | w | w
      · rw [sgI_n w, n01_t w]; rfl
      · rw [w, n01_f (by decide)]; rfl
      · rw [sgI_p w, n01_f (by omega)]; rfl
    rw [ex, ex]
    have := Int.mul_lt_mul_of_pos_left lt h1
    exact n01_le (fun z => by omega)
  · rw [vx2 h1 h3 h4 h5 hq, vx2 h1 h3 h4 h5 hq]
    by_cases z : q * q * dqz p < 0
    · rw [if_pos z, if_pos z]
      exact Nat.le_refl _
    · rw [if_neg z, if_neg z]
      have := Int.mul_lt_mul_of_pos_left lt (show 0 < 2 * gZ p 2 by omega)
      exact N2_mono (by omega)
  · have tl := Int.mul_lt_mul_of_pos_left lt (show 0 < 3 * gZ p 3 by omega)
    have qq := Int.mul_pos hq hq
    have q6 := Int.mul_pos (Int.mul_pos qq hq) (Int.mul_pos qq hq)
    have e := al_3d (Pz p) (Qz p) q
    have de : dlt p = 4 * Pz p * Pz p * Pz p - Qz p * Qz p := rfl
    rw [← de] at e
    rw [vx3 h1 h2 h3 h4 h5 h6 h7 hq, vx3 h1 h2 h3 h4 h5 h6 h7 hq]
    by_cases z : dlt p < 0
    · rw [if_pos z, if_pos z]
      refine Nat.add_le_add_left (n01_le (fun k => ?_)) _
      refine Int.not_le.mp fun w => ?_
      have := N1_mono (t := 3 * gZ p 3 * x + gZ p 2 * q) (s := 3 * gZ p 3 * y + gZ p 2 * q) (by rw [← e]; exact Int.mul_neg_of_pos_of_neg q6 z) (by omega) w
      omega
    · rw [if_neg z, if_neg z]
      have dn : dlt p ≠ 0 := fun z => by
        rw [z, Int.mul_zero] at h7
        omega
      exact N3_mono (by rw [← e]; exact Int.mul_pos q6 (by omega)) (by omega)
  · have tl := Int.mul_lt_mul_of_pos_left lt (show 0 < 3 * gZ p 3 by omega)
    rw [vx4 h1 h2 h3 h4 h5 h6 hq, vx4 h1 h2 h3 h4 h5 h6 hq]
    have := f4_mono (Q := q * q * q * Qz p) (show 3 * gZ p 3 * x + gZ p 2 * q < 3 * gZ p 3 * y + gZ p 2 * q by omega)
    exact Nat.add_le_add_left (n01_le (fun z => by omega)) _
def dsc (a b c d : Int) : Int := b * b * (c * c) - 4 * (a * (c * c * c)) - 4 * (b * b * b * d) - 27 * (a * a * (d * d)) + 18 * (a * b * (c * d))
theorem dlt_dsc (a b c d : Int) : 4 * (b * b - 3 * a * c) * (b * b - 3 * a * c) * (b * b - 3 * a * c) - (2 * b * b * b - 9 * a * b * c + 27 * a * a * d) * (2 * b * b * b - 9 * a * b * c + 27 * a * a * d) = 27 * (a * a) * dsc a b c d := by
  unfold dsc
  grind
/-- by one at most between two points that are near -/
theorem VX_sep {ch : List (List Int × Nat)} (h : okC ch) (x : Int) : VX ch x 65536 ≤ VX ch (x + 16) 65536 + 1 := by
  rcases h with rfl | ⟨c, rfl, _⟩ | h | ⟨p, u, v, rfl, h1, h2, h3, h4, h5, _⟩ | ⟨p, u, v, w, rfl, h1, h2, h3, h4, h5, h6, h7, s7, _⟩ | ⟨p, u, v, rfl, h1, h2, h3, h4, h5, h6, _⟩
  · exact Nat.zero_le _
  · exact Nat.le_add_right _ _
  · obtain ⟨p, _, e⟩ := vx1 h x 65536
    rw [e]
    exact Nat.le_trans n01_1 (Nat.le_add_left _ _)
  · rw [vx2 h1 h3 h4 h5 (by decide), vx2 h1 h3 h4 h5 (by decide)]
    by_cases z : 65536 * 65536 * dqz p < 0
    · rw [if_pos z, if_pos z]
      exact Nat.le_add_right _ _
    · rw [if_neg z, if_neg z]
      have dn : dqz p ≠ 0 := fun z => by
        rw [z, Int.mul_zero] at h5
        omega
      refine N2_sep (d := 2 * gZ p 2 * 16) (q := 65536) ?_ (by decide) (by omega) (by omega)
      rw [Int.mul_add]
      omega
  · have e := al_3d (Pz p) (Qz p) 65536
    have de : dlt p = 4 * Pz p * Pz p * Pz p - Qz p * Qz p := rfl
    rw [← de] at e
    rw [vx3 h1 h2 h3 h4 h5 h6 h7 (by decide), vx3 h1 h2 h3 h4 h5 h6 h7 (by decide)]
    by_cases z : dlt p < 0
    · rw [if_pos z, if_pos z]
      have := n01_1 (c := fi3 (65536 * 65536 * Pz p) (65536 * 65536 * 65536 * Qz p) (3 * gZ p 3 * x + gZ p 2 * 65536) < 0)
      omega
    · rw [if_neg z, if_neg z]
      have dn : dlt p ≠ 0 := fun z => by
        rw [z, Int.mul_zero] at h7
        omega
      have dp : 0 < dlt p := by omega
      have pp := P_pos (P := Pz p) (Q := Qz p) (by rw [← de]; exact dp)
      have a7 := s7 3 (by decide)
      have b7 := s7 2 (by decide)
      have c7 := s7 1 (by decide)
      have pb : Pz p ≤ 196 := by
        have x1 := nm b7 b7
        have x2 := nm a7 c7
        have : Pz p = gZ p 2 * gZ p 2 - 3 * (gZ p 3 * gZ p 1) := by
          unfold Pz
          rw [Int.mul_assoc 3]
        omega
      obtain ⟨A, hA⟩ : ∃ A, A = gZ p 3 := ⟨_, rfl⟩
      have AA := Int.mul_pos h1 h1
      rw [← hA] at AA h1
      have ds : 27 * (A * A) ≤ dlt p := by
        have k : dlt p = 27 * (A * A) * dsc A (gZ p 2) (gZ p 1) (gZ p 0) := by
          rw [hA]
          exact dlt_dsc _ _ _ _
        have k1 : 0 < dsc A (gZ p 2) (gZ p 1) (gZ p 0) := pos_of (show 0 < 27 * (A * A) by omega) (by rw [← k]; exact dp)
        have := Int.mul_le_mul_of_nonneg_left (show 1 ≤ dsc A (gZ p 2) (gZ p 1) (gZ p 0) by omega) (show 0 ≤ 27 * (A * A) by omega)
        omega
      have P2 : Pz p * Pz p ≤ 196 * 196 := Int.mul_le_mul pb pb (by omega) (by omega)
      refine N3_sep (d := 48 * A) (q := 65536) (by rw [← e]; exact Int.mul_pos (by decide) dp) ?_ (by omega) (by omega) (by omega) ?_
      · rw [hA, Int.mul_add]
        omega
      · rw [← e]
        have x1 : 24 * (48 * A * (48 * A)) * (65536 * 65536 * Pz p * (65536 * 65536 * Pz p)) = (24 * 48 * 48 * 65536 * 65536 * 65536 * 65536) * ((A * A) * (Pz p * Pz p)) := by
          clear e de ds dn z pp pb P2 dp
          grind
        have x2 : (A * A) * (Pz p * Pz p) ≤ (A * A) * (196 * 196) := Int.mul_le_mul_of_nonneg_left P2 (by omega)
        rw [x1]
        omega
  · rw [vx4 h1 h2 h3 h4 h5 h6 (by decide), vx4 h1 h2 h3 h4 h5 h6 (by decide)]
    have := n01_1 (c := fi3 0 (65536 * 65536 * 65536 * Qz p) (3 * gZ p 3 * x + gZ p 2 * 65536) < 0)
    omega
theorem hvP_sc {p : List Int} {c x q : Int} : ∀ d, d ≤ 3 → ∃ k : Int, (0 < c → 0 < k) ∧ hvP p d (c * x) (c * q) = k * hvP p d x q := by
  intro d hd
  rcases (by omega : d = 0 ∨ d = 1 ∨ d = 2 ∨ d = 3) with rfl | rfl | rfl | rfl
  · exact ⟨1, fun _ => by decide, by show gZ p 0 = 1 * gZ p 0; omega⟩
  · refine ⟨c, fun h => h, ?_⟩
    show gZ p 1 * (c * x) + gZ p 0 * (c * q) = c * (gZ p 1 * x + gZ p 0 * q)
    grind
  · refine ⟨c * c, fun h => Int.mul_pos h h, ?_⟩
    show gZ p 2 * (c * x * (c * x)) + gZ p 1 * (c * x * (c * q)) + gZ p 0 * (c * q * (c * q)) = c * c * (gZ p 2 * (x * x) + gZ p 1 * (x * q) + gZ p 0 * (q * q))
    grind
  · refine ⟨c * c * c, fun h => Int.mul_pos (Int.mul_pos h h) h, ?_⟩
    show gZ p 3 * (c * x * (c * x) * (c * x)) + gZ p 2 * (c * x * (c * x) * (c * q)) + gZ p 1 * (c * x * (c * q) * (c * q)) + gZ p 0 * (c * q * (c * q) * (c * q)) = c * c * c * (gZ p 3 * (x * x * x) + gZ p 2 * (x * x * q) + gZ p 1 * (x * q * q) + gZ p 0 * (q * q * q))
    grind
theorem okC_d {ch : List (List Int × Nat)} (h : okC ch) : (∀ c, c ∈ ch → c.2 ≤ 3 ∧ sml 1048576 c.1 ∧ (c.2 = 3 → sml 7 c.1)) ∧ ch.length ≤ 4 := by
  have up : ∀ {p : List Int}, sml 7 p → sml 1048576 p := fun h k hk => Nat.le_trans (h k hk) (by decide)
  rcases h with rfl | ⟨c, rfl, s⟩ | ⟨p, u, rfl, _, _, s1, s2⟩ | ⟨p, u, v, rfl, _, _, _, _, _, s1, s2, s3⟩ | ⟨p, u, v, w, rfl, _, _, _, _, _, _, _, s1, s2, s3, s4⟩ | ⟨p, u, v, rfl, _, _, _, _, _, _, s1, s2, s3⟩
  · exact ⟨fun c h => absurd h List.not_mem_nil, by decide⟩
  · refine ⟨fun c h => ?_, Nat.le_add_left _ _⟩
    simp only [List.mem_cons, List.not_mem_nil, or_false] at h
    subst h
    exact ⟨by show 0 ≤ 3; decide, s, fun z => by cases z⟩
  · refine ⟨fun c h => ?_, Nat.le_add_left _ _⟩
    simp only [List.mem_cons, List.not_mem_nil, or_false] at h
    rcases h with rfl | rfl
    · exact ⟨by show 1 ≤ 3; decide, s1, fun z => by cases z⟩
    · exact ⟨by show 0 ≤ 3; decide, s2, fun z => by cases z⟩
  · refine ⟨fun c h => ?_, Nat.le_add_left _ _⟩
    simp only [List.mem_cons, List.not_mem_nil, or_false] at h
    rcases h with rfl | rfl | rfl
    · exact ⟨by show 2 ≤ 3; decide, s1, fun z => by cases z⟩
    · exact ⟨by show 1 ≤ 3; decide, s2, fun z => by cases z⟩
    · exact ⟨by show 0 ≤ 3; decide, s3, fun z => by cases z⟩
  · refine ⟨fun c h => ?_, Nat.le_refl _⟩
    simp only [List.mem_cons, List.not_mem_nil, or_false] at h
    rcases h with rfl | rfl | rfl | rfl
    · exact ⟨Nat.le_refl 3, up s1, fun _ => s1⟩
    · exact ⟨by show 2 ≤ 3; decide, s2, fun z => by cases z⟩
    · exact ⟨by show 1 ≤ 3; decide, s3, fun z => by cases z⟩
    · exact ⟨by show 0 ≤ 3; decide, s4, fun z => by cases z⟩
  · refine ⟨fun c h => ?_, by show 3 ≤ 4; decide⟩
    simp only [List.mem_cons, List.not_mem_nil, or_false] at h
    rcases h with rfl | rfl | rfl
    · exact ⟨Nat.le_refl 3, up s1, fun _ => s1⟩
    · exact ⟨by show 2 ≤ 3; decide, s2, fun z => by cases z⟩
    · exact ⟨by show 0 ≤ 3; decide, s3, fun z => by cases z⟩
theorem VX_sc {ch : List (List Int × Nat)} (h : ∀ c, c ∈ ch → c.2 ≤ 3) {c x q : Int} (hc : 0 < c) : VX ch (c * x) (c * q) = VX ch x q := by
  unfold VX
  congr 1
  refine List.map_congr_left fun e he => ?_
  obtain ⟨k, k1, k2⟩ := hvP_sc (p := e.1) (c := c) (x := x) (q := q) e.2 (h e he)
  rw [k2]
  exact (sgI_mul (k1 hc) rfl).symm
end
