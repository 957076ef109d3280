/-! THE PURE PART, roots: changes of sign fall along the line, by one at most between two points that are near. -/
section
def sgI (x : Int) : Int := if x < 0 then -1 else if 0 < x then 1 else 0
theorem sgI_n {x : Int} (h : x < 0) : sgI x = -1 := if_pos h
theorem sgI_p {x : Int} (h : 0 < x) : sgI x = 1 := by
  unfold sgI
  rw [if_neg (by omega), if_pos h]
theorem sgI_0 : sgI 0 = 0 := rfl
theorem sgI_mul {c x y : Int} (hc : 0 < c) (h : c * x = y) : sgI x = sgI y := by
  rcases Int.lt_trichotomy x 0 with z | z | z
  · have := Int.mul_neg_of_pos_of_neg hc z
    rw [sgI_n z, sgI_n (by omega)]
  · subst z
    rw [Int.mul_zero] at h
    rw [← h]
  · have := Int.mul_pos hc z
    rw [sgI_p z, sgI_p (by omega)]
def vrA : Int → List Int → Nat
  | _, [] => 0
  | a, s :: r => if s = 0 then vrA a r else (if a ≠ 0 ∧ s ≠ a then 1 else 0) + vrA s r
/-- changes of sign, noughts left out -/
def vrN (l : List Int) : Nat := vrA 0 l
def n01 (c : Prop) [Decidable c] : Nat := if c then 1 else 0
theorem n01_t {c : Prop} [Decidable c] (h : c) : n01 c = 1 := if_pos h
theorem n01_f {c : Prop} [Decidable c] (h : ¬ c) : n01 c = 0 := if_neg h
theorem n01_le {c d : Prop} [Decidable c] [Decidable d] (h : c → d) : n01 c ≤ n01 d := by
  by_cases e : c
  · rw [n01_t e, n01_t (h e)]
    exact Nat.le_refl _
  · rw [n01_f e]
    exact Nat.zero_le _
theorem n01_1 {c : Prop} [Decidable c] : n01 c ≤ 1 := by
  by_cases e : c
  · rw [n01_t e]
    exact Nat.le_refl _
  · rw [n01_f e]
    exact Nat.zero_le _
theorem sqn (x : Int) : 0 ≤ x * x := by
  rcases Int.lt_or_le x 0 with h | h
  · have := Int.mul_nonneg (show 0 ≤ -x by omega) (show 0 ≤ -x by omega)
    rw [Int.neg_mul_neg] at this
    exact this
  · exact Int.mul_nonneg h h
theorem lt_sq {x y : Int} (hy : 0 ≤ y) (h : x * x < y * y) : x < y := by
  refine Int.not_le.mp fun z => ?_
  have := Int.mul_le_mul z z hy (by omega)
  omega
theorem le_sq {x y : Int} (hy : 0 ≤ y) (h : x * x ≤ y * y) : x ≤ y := by
  rcases Int.lt_or_le y x with z | z
  · have := Int.mul_le_mul (show y + 1 ≤ x by omega) (show y + 1 ≤ x by omega) (by omega) (by omega)
    have e : (y + 1) * (y + 1) = y * y + 2 * y + 1 := by clear this h hy z; grind
    omega
  · exact z
def fi3 (P Q t : Int) : Int := t * t * t - 3 * P * t + Q
theorem fi_key (P t : Int) : 4 * P * P * P - (t * (3 * P - t * t)) * (t * (3 * P - t * t)) = (4 * P - t * t) * ((P - t * t) * (P - t * t)) := by grind
theorem fi_pos {P Q t : Int} (hQ : 0 < Q) (hd : 4 * P * P * P - Q * Q < 0) (ht : t * t ≤ 4 * P) : 0 < fi3 P Q t := by
  have k := fi_key P t
  have k2 : 0 ≤ (4 * P - t * t) * ((P - t * t) * (P - t * t)) := Int.mul_nonneg (by omega) (sqn _)
  have l := lt_sq (x := t * (3 * P - t * t)) (y := Q) (by omega) (by omega)
  have e : fi3 P Q t = Q - t * (3 * P - t * t) := by
    unfold fi3
    clear k k2 l hd
    grind
  omega
theorem fi_odd (P Q t : Int) : fi3 P (-Q) (-t) = -fi3 P Q t := by
  unfold fi3
  grind
theorem fi_neg {P Q t : Int} (hQ : Q < 0) (hd : 4 * P * P * P - Q * Q < 0) (ht : t * t ≤ 4 * P) : fi3 P Q t < 0 := by
  have := fi_pos (P := P) (Q := -Q) (t := -t) (by omega) (by rw [Int.neg_mul_neg]; exact hd) (by rw [Int.neg_mul_neg]; exact ht)
  rw [fi_odd] at this
  omega
theorem q_lt {P Q t : Int} (h2 : 4 * P * P * P - Q * Q < 0) (ht : t * t ≤ P) : (2 * P * t) * (2 * P * t) < Q * Q := by
  have e : (2 * P * t) * (2 * P * t) = 4 * (P * P) * (t * t) := by
    clear h2 ht
    grind
  have : 4 * (P * P) * (t * t) ≤ 4 * (P * P) * P := Int.mul_le_mul_of_nonneg_left ht (by have := sqn P; omega)
  have e2 : 4 * (P * P) * P = 4 * P * P * P := by
    clear h2 ht e this
    grind
  omega
/-- with one root -/
theorem v3_neg {P Q t : Int} (hd : 4 * P * P * P - Q * Q < 0) : vrN [sgI (fi3 P Q t), sgI (t * t - P), sgI (2 * P * t - Q), sgI (4 * P * P * P - Q * Q)] = 1 + n01 (fi3 P Q t < 0) := by
  rw [sgI_n hd]
  rcases Int.lt_or_le 0 (t * t - P) with z | z
  · rw [sgI_p z]
    have a : ∀ f, vrN [f, 1, sgI (2 * P * t - Q), -1] = vrN [f, 1, -1] := fun f => by
      rcases Int.lt_trichotomy (2 * P * t - Q) 0 with w | w | w
      · rw [sgI_n w]
        by_cases e : f = 0
        · subst e; rfl
        · simp [vrN, vrA, e]
      · rw [w, sgI_0]
        simp [vrN, vrA]
      · rw [sgI_p w]
        by_cases e : f = 0
        · subst e; rfl
        · simp [vrN, vrA, e]
    rw [a]
    rcases Int.lt_trichotomy (fi3 P Q t) 0 with w | w | w
    · rw [sgI_n w, n01_t w]; rfl
    · rw [w, n01_f (by decide)]; rfl
    · rw [sgI_p w, n01_f (by omega)]; rfl
  · have ps : t * t ≤ P := by omega
    have tt := sqn t
    have ql := q_lt hd ps
    rcases Int.lt_trichotomy Q 0 with y | y | y
    · have f := fi_neg y hd (t := t) (by omega)
      have e : 0 < 2 * P * t - Q := by
        have := lt_sq (x := -(2 * P * t)) (y := -Q) (by omega) (by rw [Int.neg_mul_neg, Int.neg_mul_neg]; exact ql)
        omega
      rw [sgI_n f, sgI_p e, n01_t f]
      rcases Int.lt_or_le (t * t - P) 0 with w | w
      · rw [sgI_n w]; rfl
      · rw [show t * t - P = 0 by omega, sgI_0]; rfl
    · exfalso
      subst y
      rw [Int.zero_mul] at ql
      have := sqn (2 * P * t)
      omega
    · have f := fi_pos y hd (t := t) (by omega)
      have e : 2 * P * t - Q < 0 := by
        have := lt_sq (x := 2 * P * t) (y := Q) (by omega) ql
        omega
      rw [sgI_p f, sgI_n e, n01_f (by omega)]
      rcases Int.lt_or_le (t * t - P) 0 with w | w
      · rw [sgI_n w]; rfl
      · rw [show t * t - P = 0 by omega, sgI_0]; rfl
def N3 (P Q t : Int) : Nat := if t * t < P then 1 + n01 (0 < fi3 P Q t) else if 0 < t then n01 (fi3 P Q t < 0) else 2 + n01 (fi3 P Q t < 0)
theorem P_pos {P Q : Int} (hd : 0 < 4 * P * P * P - Q * Q) : 0 < P := by
  refine Int.not_le.mp fun z => ?_
  have a := sqn Q
  have b : 0 ≤ (P * P) * (-P) := Int.mul_nonneg (sqn P) (by omega)
  have e : 4 * P * P * P = -(4 * ((P * P) * (-P))) := by
    clear hd a b z
    grind
  omega
theorem q_gt {P Q t : Int} (hd : 0 < 4 * P * P * P - Q * Q) (ht : P ≤ t * t) : Q * Q < (2 * P * t) * (2 * P * t) := by
  have e : (2 * P * t) * (2 * P * t) = 4 * (P * P) * (t * t) := by
    clear hd ht
    grind
  have : 4 * (P * P) * P ≤ 4 * (P * P) * (t * t) := Int.mul_le_mul_of_nonneg_left ht (by have := sqn P; omega)
  have e2 : 4 * (P * P) * P = 4 * P * P * P := by
    clear hd ht e this
    grind
  omega
theorem fi_eta (P Q t : Int) : fi3 P Q t = t * (t * t - P) - (2 * P * t - Q) := by
  unfold fi3
  grind
/-- with three roots -/
theorem v3_pos {P Q t : Int} (hd : 0 < 4 * P * P * P - Q * Q) : vrN [sgI (fi3 P Q t), sgI (t * t - P), sgI (2 * P * t - Q), sgI (4 * P * P * P - Q * Q)] = N3 P Q t := by
  have pp := P_pos hd
  rw [sgI_p hd]
  unfold N3
  by_cases z : t * t < P
  · rw [if_pos z, sgI_n (show t * t - P < 0 by omega)]
    have a : ∀ f, vrN [f, -1, sgI (2 * P * t - Q), 1] = vrN [f, -1, 1] := fun f => by
      rcases Int.lt_trichotomy (2 * P * t - Q) 0 with w | w | w
      · rw [sgI_n w]
        by_cases e : f = 0
        · subst e; rfl
        · simp [vrN, vrA, e]
      · rw [w, sgI_0]
        simp [vrN, vrA]
      · rw [sgI_p w]
        by_cases e : f = 0
        · subst e; rfl
        · simp [vrN, vrA, e]
    rw [a]
    rcases Int.lt_trichotomy (fi3 P Q t) 0 with w | w | w
    · rw [sgI_n w, n01_f (by omega)]; rfl
    · rw [w, n01_f (by decide)]; rfl
    · rw [sgI_p w, n01_t w]; rfl
  · rw [if_neg z]
    have qg := q_gt hd (show P ≤ t * t by omega)
    have fe := fi_eta P Q t
    by_cases y : 0 < t
    · rw [if_pos y]
      have tp : 0 ≤ 2 * P * t := Int.mul_nonneg (by omega) (by omega)
      have e : 0 < 2 * P * t - Q := by
        have := lt_sq (x := Q) (y := 2 * P * t) tp qg
        omega
      rw [sgI_p e]
      rcases Int.lt_or_le 0 (t * t - P) with w | w
      · rw [sgI_p w]
        rcases Int.lt_trichotomy (fi3 P Q t) 0 with x | x | x
        · rw [sgI_n x, n01_t x]; rfl
        · rw [x, n01_f (by decide)]; rfl
        · rw [sgI_p x, n01_f (by omega)]; rfl
      · have w0 : t * t - P = 0 := by omega
        rw [w0, Int.mul_zero] at fe
        rw [w0, sgI_0, sgI_n (show fi3 P Q t < 0 by omega), n01_t (by omega)]; rfl
    · rw [if_neg y]
      have tn : 0 ≤ 2 * P * (-t) := Int.mul_nonneg (by omega) (by omega)
      rw [Int.mul_neg] at tn
      have e : 2 * P * t - Q < 0 := by
        have := lt_sq (x := -Q) (y := -(2 * P * t)) tn (by rw [Int.neg_mul_neg, Int.neg_mul_neg]; exact qg)
        omega
      rw [sgI_n e]
      rcases Int.lt_or_le 0 (t * t - P) with w | w
      · rw [sgI_p w]
        rcases Int.lt_trichotomy (fi3 P Q t) 0 with x | x | x
        · rw [sgI_n x, n01_t x]; rfl
        · rw [x, n01_f (by decide)]; rfl
        · rw [sgI_p x, n01_f (by omega)]; rfl
      · have w0 : t * t - P = 0 := by omega
        rw [w0, Int.mul_zero] at fe
        rw [w0, sgI_0, sgI_p (show 0 < fi3 P Q t by omega), n01_f (by omega)]; rfl
theorem fi_dif (P Q t s : Int) : fi3 P Q s - fi3 P Q t = (s - t) * (t * t + t * s + s * s - 3 * P) := by
  unfold fi3
  grind
theorem fi_up {P Q t s : Int} (h : t < s) (k : 3 * P < t * t + t * s + s * s) : fi3 P Q t < fi3 P Q s := by
  have e := fi_dif P Q t s
  have := Int.mul_pos (show 0 < s - t by omega) (show 0 < t * t + t * s + s * s - 3 * P by omega)
  omega
theorem fi_dn {P Q t s : Int} (h : t < s) (k : t * t + t * s + s * s < 3 * P) : fi3 P Q s < fi3 P Q t := by
  have e := fi_dif P Q t s
  have := Int.mul_pos (show 0 < s - t by omega) (show 0 < 3 * P - (t * t + t * s + s * s) by omega)
  have e2 : (s - t) * (3 * P - (t * t + t * s + s * s)) = -((s - t) * (t * t + t * s + s * s - 3 * P)) := by
    clear this e k
    grind
  omega
theorem sq_mid {a b P : Int} (ha : a * a < P) (hb : b * b < P) : a * b < P := by
  have := sqn (a - b)
  have e : (a - b) * (a - b) = a * a - 2 * (a * b) + b * b := by
    clear this ha hb
    grind
  omega
theorem sq_out {a b P : Int} (h0 : 0 < a) (hab : a < b) (ha : P ≤ a * a) : P < a * b ∧ P < b * b := by
  have h1 : a * a < a * b := Int.mul_lt_mul_of_pos_left hab h0
  have h2 : a * b < b * b := Int.mul_lt_mul_of_pos_right hab (by omega)
  omega
/-- it falls: with three roots -/
theorem N3_mono {P Q t s : Int} (hd : 0 < 4 * P * P * P - Q * Q) (h : t < s) : N3 P Q s ≤ N3 P Q t := by
  have pp := P_pos hd
  unfold N3
  by_cases a : t * t < P
  · rw [if_pos a]
    by_cases b : s * s < P
    · rw [if_pos b]
      have m := sq_mid a b
      have := fi_dn (Q := Q) h (show t * t + t * s + s * s < 3 * P by omega)
      exact Nat.add_le_add_left (n01_le (fun x => by omega)) _
    · rw [if_neg b]
      by_cases c : 0 < s
      · rw [if_pos c]
        exact Nat.le_trans n01_1 (Nat.le_add_right _ _)
      · exfalso
        have : (-s) * (-s) ≤ (-t) * (-t) := Int.mul_le_mul (by omega) (by omega) (by omega) (by omega)
        rw [Int.neg_mul_neg, Int.neg_mul_neg] at this
        omega
  · rw [if_neg a]
    by_cases b : s * s < P
    · rw [if_pos b]
      by_cases c : 0 < t
      · exfalso
        have := sq_out c h (show P ≤ t * t by omega)
        omega
      · rw [if_neg c]
        have := n01_1 (c := 0 < fi3 P Q s)
        omega
    · rw [if_neg b]
      by_cases c : 0 < t
      · rw [if_pos c, if_pos (by omega)]
        have m := sq_out c h (show P ≤ t * t by omega)
        have := fi_up (Q := Q) h (show 3 * P < t * t + t * s + s * s by omega)
        exact n01_le (fun x => by omega)
      · rw [if_neg c]
        by_cases d : 0 < s
        · rw [if_pos d]
          exact Nat.le_trans n01_1 (by omega)
        · rw [if_neg d]
          have s0 : s ≠ 0 := fun z => b (by rw [z]; exact pp)
          have m := sq_out (a := -s) (b := -t) (P := P) (by omega) (by omega) (by rw [Int.neg_mul_neg]; omega)
          rw [Int.neg_mul_neg, Int.neg_mul_neg, Int.mul_comm] at m
          have := fi_up (Q := Q) h (show 3 * P < t * t + t * s + s * s by omega)
          exact Nat.add_le_add_left (n01_le (fun x => by omega)) _
/-- it falls: with one root -/
theorem N1_mono {P Q t s : Int} (hd : 4 * P * P * P - Q * Q < 0) (h : t < s) (k : 0 ≤ fi3 P Q t) : 0 ≤ fi3 P Q s := by
  refine Int.not_lt.mp fun z => ?_
  have tt := sqn t
  have ss := sqn s
  have ts := sqn (t + s)
  have es : (t + s) * (t + s) = t * t + 2 * (t * s) + s * s := by
    clear tt ss ts hd h k z
    grind
  have up : P ≤ 0 → False := fun p0 => by
    rcases Int.lt_or_le P 0 with w | w
    · have := fi_up (Q := Q) h (show 3 * P < t * t + t * s + s * s by omega)
      omega
    · have p0 : P = 0 := by omega
      subst p0
      have ne : 0 < t * t + t * s + s * s := by
        rcases Int.lt_or_le 0 (t * t + t * s + s * s) with v | v
        · exact v
        · exfalso
          have t0 : t * t = 0 := by omega
          have s0 : s * s = 0 := by omega
          have : t = 0 := by
            rcases Int.mul_eq_zero.mp t0 with y | y <;> exact y
          have : s = 0 := by
            rcases Int.mul_eq_zero.mp s0 with y | y <;> exact y
          omega
      have := fi_up (Q := Q) h (show 3 * 0 < t * t + t * s + s * s by omega)
      omega
  have pp : 0 < P := Int.not_le.mp fun w => up w
  rcases Int.lt_trichotomy Q 0 with y | y | y
  · -- the lower one is far up
    have t4 : 4 * P < t * t := Int.not_le.mp fun w => by
      have := fi_neg y hd w
      omega
    have tp : 0 < t := Int.not_le.mp fun w => by
      have : 0 ≤ (-t) * (t * t - 3 * P) := Int.mul_nonneg (by omega) (by omega)
      have e : fi3 P Q t = -((-t) * (t * t - 3 * P)) + Q := by
        unfold fi3
        clear this hd tt ss ts es
        grind
      omega
    have m := sq_out tp h (show 4 * P ≤ t * t by omega)
    have := fi_up (Q := Q) h (show 3 * P < t * t + t * s + s * s by omega)
    omega
  · subst y
    have : 0 < 4 * (P * P) * P := Int.mul_pos (by have := Int.mul_pos pp pp; omega) pp
    have e : 4 * (P * P) * P = 4 * P * P * P := by
      clear this hd tt ss ts es
      grind
    omega
  · have s4 : 4 * P < s * s := Int.not_le.mp fun w => by
      have := fi_pos y hd w
      omega
    have sn : s < 0 := Int.not_le.mp fun w => by
      have : 0 ≤ s * (s * s - 3 * P) := Int.mul_nonneg (by omega) (by omega)
      have e : fi3 P Q s = s * (s * s - 3 * P) + Q := by
        unfold fi3
        clear this hd tt ss ts es
        grind
      omega
    have m := sq_out (a := -s) (b := -t) (P := 4 * P) (by omega) (by omega) (by rw [Int.neg_mul_neg]; omega)
    rw [Int.neg_mul_neg, Int.neg_mul_neg, Int.mul_comm] at m
    have := fi_up (Q := Q) h (show 3 * P < t * t + t * s + s * s by omega)
    omega
/-- two roots are not near: one of them above the least point -/
theorem N3_near {P Q t s d q : Int} (hd : 0 < 4 * P * P * P - Q * Q) (e : s = t + d) (d0 : 0 < d) (q0 : 5 * d ≤ q) (hq : q * q ≤ P) (ht : t * t < P) (hs : P ≤ s * s) (sp : 0 < s) (k : 0 ≤ fi3 P Q s) : 4 * P * P * P - Q * Q ≤ 24 * (d * d) * (P * P) := by
  have sq : q ≤ s := le_sq (by omega) (by omega)
  have t4 : 4 * d ≤ t := by omega
  have td : 4 * (t * d) ≤ t * t := by
    have := Int.mul_le_mul_of_nonneg_left t4 (show 0 ≤ t by omega)
    have e2 : t * (4 * d) = 4 * (t * d) := by
      clear this hd k
      grind
    omega
  have dd : d * d ≤ t * d := Int.mul_le_mul_of_nonneg_right (by omega) (by omega)
  have ss : s * s = t * t + 2 * (t * d) + d * d := by
    rw [e]
    clear hd k td dd
    grind
  have s2 : s * s ≤ 2 * P := by omega
  have F0 : 0 ≤ s * (3 * P - s * s) := Int.mul_nonneg (by omega) (by omega)
  have fe : fi3 P Q s = Q - s * (3 * P - s * s) := by
    unfold fi3
    clear hd k td dd ss F0
    grind
  have QF : (s * (3 * P - s * s)) * (s * (3 * P - s * s)) ≤ Q * Q := Int.mul_le_mul (by omega) (by omega) F0 (by omega)
  have key := fi_key P s
  have n1 : s * s - P ≤ 2 * (d * s) := by
    have e3 : d * s = t * d + d * d := by
      rw [e]
      clear hd k td dd ss F0 fe QF key
      grind
    have := sqn d
    omega
  have n2 : (P - s * s) * (P - s * s) ≤ (2 * (d * s)) * (2 * (d * s)) := by
    have := Int.mul_le_mul n1 n1 (by omega) (by have := Int.mul_nonneg (show 0 ≤ d by omega) (show 0 ≤ s by omega); omega)
    have e4 : (s * s - P) * (s * s - P) = (P - s * s) * (P - s * s) := by
      clear hd k td dd ss F0 fe QF key this n1
      grind
    omega
  have e5 : (2 * (d * s)) * (2 * (d * s)) = 4 * ((d * d) * (s * s)) := by
    clear hd k td dd ss F0 fe QF key n1 n2
    grind
  have n3 : (d * d) * (s * s) ≤ (d * d) * (2 * P) := Int.mul_le_mul_of_nonneg_left s2 (sqn d)
  have n4 : (4 * P - s * s) * ((P - s * s) * (P - s * s)) ≤ (3 * P) * (8 * (d * d) * P) := by
    refine Int.mul_le_mul (by omega) ?_ (sqn _) (by omega)
    have e6 : (d * d) * (2 * P) = 2 * ((d * d) * P) := by
      clear hd k td dd ss F0 fe QF key n1 n2 e5 n3
      grind
    have e7 : 8 * (d * d) * P = 8 * ((d * d) * P) := Int.mul_assoc _ _ _
    omega
  have e8 : (3 * P) * (8 * (d * d) * P) = 24 * (d * d) * (P * P) := by
    clear hd k td dd ss F0 fe QF key n1 n2 e5 n3 n4
    grind
  omega
theorem N3_sep {P Q t s d q : Int} (hd : 0 < 4 * P * P * P - Q * Q) (e : s = t + d) (d0 : 0 < d) (q0 : 5 * d ≤ q) (hq : q * q ≤ P) (big : 24 * (d * d) * (P * P) < 4 * P * P * P - Q * Q) : N3 P Q t ≤ N3 P Q s + 1 := by
  have pp := P_pos hd
  have h : t < s := by omega
  unfold N3
  by_cases a : t * t < P
  · rw [if_pos a]
    have x1 := n01_1 (c := 0 < fi3 P Q t)
    by_cases b : s * s < P
    · rw [if_pos b]
      omega
    · rw [if_neg b]
      by_cases c : 0 < s
      · rw [if_pos c]
        by_cases f : fi3 P Q s < 0
        · rw [n01_t f]
          omega
        · have := N3_near hd e d0 q0 hq a (by omega) c (by omega)
          omega
      · rw [if_neg c]
        omega
  · rw [if_neg a]
    by_cases c : 0 < t
    · rw [if_pos c]
      exact Nat.le_trans n01_1 (by omega)
    · rw [if_neg c]
      have tq : t ≤ -q := by
        have := le_sq (x := q) (y := -t) (by omega) (by rw [Int.neg_mul_neg]; omega)
        omega
      by_cases b : s * s < P
      · rw [if_pos b]
        by_cases f : fi3 P Q t < 0
        · by_cases g : 0 < fi3 P Q s
          · rw [n01_t g, n01_t f]
            omega
          · exfalso
            have := N3_near (P := P) (Q := -Q) (t := -s) (s := -t) (d := d) (q := q) (by rw [Int.neg_mul_neg]; exact hd) (by omega) d0 q0 hq (by rw [Int.neg_mul_neg]; exact b) (by rw [Int.neg_mul_neg]; omega) (by omega) (by rw [fi_odd]; omega)
            rw [Int.neg_mul_neg] at this
            omega
        · rw [n01_f f]
          omega
      · rw [if_neg b]
        by_cases g : 0 < s
        · exfalso
          have := le_sq (x := q) (y := s) (by omega) (by omega)
          omega
        · rw [if_neg g]
          have x1 := n01_1 (c := fi3 P Q t < 0)
          omega
/-- of squares -/
def N2 (D t : Int) : Nat := if 0 < t then n01 (t * t < D) else 1 + n01 (D < t * t)
theorem v2_neg {D t : Int} (hd : D < 0) : vrN [sgI (t * t - D), sgI t, sgI D] = 1 := by
  have := sqn t
  rw [sgI_p (show 0 < t * t - D by omega), sgI_n hd]
  rcases Int.lt_trichotomy t 0 with w | w | w
  · rw [sgI_n w]; rfl
  · rw [w]; rfl
  · rw [sgI_p w]; rfl
theorem v2_pos {D t : Int} (hd : 0 < D) : vrN [sgI (t * t - D), sgI t, sgI D] = N2 D t := by
  rw [sgI_p hd]
  unfold N2
  rcases Int.lt_trichotomy t 0 with w | w | w
  · rw [if_neg (by omega), sgI_n w]
    rcases Int.lt_trichotomy (t * t - D) 0 with x | x | x
    · rw [sgI_n x, n01_f (by omega)]; rfl
    · rw [x, n01_f (by omega)]; rfl
    · rw [sgI_p x, n01_t (by omega)]; rfl
  · subst w
    rw [if_neg (by omega), n01_f (by omega), sgI_n (show 0 * 0 - D < 0 by omega)]; rfl
  · rw [if_pos w, sgI_p w]
    rcases Int.lt_trichotomy (t * t - D) 0 with x | x | x
    · rw [sgI_n x, n01_t (by omega)]; rfl
    · rw [x, n01_f (by omega)]; rfl
    · rw [sgI_p x, n01_f (by omega)]; rfl
theorem N2_mono {D t s : Int} (h : t < s) : N2 D s ≤ N2 D t := by
  unfold N2
  by_cases a : 0 < t
  · rw [if_pos a, if_pos (by omega)]
    have := Int.mul_le_mul (show t ≤ s by omega) (show t ≤ s by omega) (by omega) (by omega)
    exact n01_le (fun x => by omega)
  · rw [if_neg a]
    by_cases b : 0 < s
    · rw [if_pos b]
      exact Nat.le_trans n01_1 (by omega)
    · rw [if_neg b]
      have := Int.mul_le_mul (show -s ≤ -t by omega) (show -s ≤ -t by omega) (by omega) (by omega)
      rw [Int.neg_mul_neg, Int.neg_mul_neg] at this
      exact Nat.add_le_add_left (n01_le (fun x => by omega)) _
theorem N2_sep {D t s d q : Int} (e : s = t + d) (q1 : 0 < q) (q0 : d < 2 * q) (hq : q * q ≤ D) : N2 D t ≤ N2 D s + 1 := by
  unfold N2
  by_cases a : 0 < t
  · rw [if_pos a]
    exact Nat.le_trans n01_1 (by omega)
  · rw [if_neg a]
    have x1 := n01_1 (c := D < t * t)
    by_cases b : 0 < s
    · rw [if_pos b]
      by_cases c : s * s < D
      · rw [n01_t c]
        omega
      · by_cases f : D < t * t
        · exfalso
          have := le_sq (x := q) (y := s) (by omega) (by omega)
          have := le_sq (x := q) (y := -t) (by omega) (by rw [Int.neg_mul_neg]; omega)
          omega
        · rw [n01_f f]
          omega
    · rw [if_neg b]
      omega
end
