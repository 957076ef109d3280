/-! THE PURE PART, roots: the chain of a polynomial of which no root comes twice. -/
section
def sgZ (x : Int) : Int := if x < 0 then -1 else 1
theorem sgZ_sq (x : Int) : sgZ x * sgZ x = 1 := by
  unfold sgZ
  by_cases h : x < 0
  · rw [if_pos h]; rfl
  · rw [if_neg h]; rfl
theorem sgZ_ab (x : Int) : sgZ x * x = x.natAbs := by
  unfold sgZ
  by_cases h : x < 0
  · rw [if_pos h]; omega
  · rw [if_neg h]; omega
theorem sgZ_1 (x : Int) : (sgZ x).natAbs = 1 := by
  unfold sgZ
  by_cases h : x < 0
  · rw [if_pos h]; rfl
  · rw [if_neg h]; rfl
theorem td_sg {x h : Int} (h0 : h ≠ 0) : (x * h.natAbs).tdiv h = x * sgZ h := by
  have e : x * h.natAbs = (x * sgZ h) * h := by
    rw [← sgZ_ab]
    grind
  rw [e, Int.mul_tdiv_cancel _ h0]
theorem sm62_ok {x : Int} (h : x.natAbs < 2 ^ 62) : sm62 x = true := Nat.ble_eq_true_of_le h
theorem sm62_of {x : Int} (h : sm62 x = true) : x.natAbs < 2 ^ 62 := Nat.le_of_ble_eq_true h
theorem dwS_st {h : Int} {b : List Int} {bd s : Nat} {L O : List Int} (h0 : h ≠ 0) (hs : (gZ L (s + bd) * h.natAbs).natAbs < 2 ^ 62) : dwS h b bd (s + 1) L O = dwS h b bd s (dvI (gZ L (s + bd) * sgZ h) b s (bd + 1) (mulZ h.natAbs L)) ((mulZ h.natAbs O).set s (gZ L (s + bd) * sgZ h)) := by
  rw [dwS, if_pos (sm62_ok hs), td_sg h0]
theorem nm {x y : Int} {m n : Nat} (hx : x.natAbs ≤ m) (hy : y.natAbs ≤ n) : (x * y).natAbs ≤ m * n := by
  rw [Int.natAbs_mul]
  exact Nat.mul_le_mul hx hy
/-- a cubic by a square -/
theorem dv32 {a0 a1 a2 a3 b0 b1 b2 b3 : Int} (h0 : b2 ≠ 0) (ha : a0.natAbs ≤ 7 ∧ a1.natAbs ≤ 7 ∧ a2.natAbs ≤ 7 ∧ a3.natAbs ≤ 7) (hb : b0.natAbs ≤ 21 ∧ b1.natAbs ≤ 21 ∧ b2.natAbs ≤ 21) : ∃ l0 l1 o0 o1 : Int, (∃ O, dvZ [a0, a1, a2, a3] [b0, b1, b2, b3] 3 2 = some ([l0, l1, 0, 0], O)) ∧ l0.natAbs ≤ 20000 ∧ l1.natAbs ≤ 20000 ∧ b2 * b2 * a0 = o0 * b0 + l0 ∧ b2 * b2 * a1 = o0 * b1 + o1 * b0 + l1 ∧ b2 * b2 * a2 = o0 * b2 + o1 * b1 ∧ b2 * b2 * a3 = o1 * b2 := by
  obtain ⟨H, hH⟩ : ∃ H : Int, H = b2.natAbs := ⟨_, rfl⟩
  obtain ⟨e, he⟩ : ∃ e : Int, e = sgZ b2 := ⟨_, rfl⟩
  have ee : e * e = 1 := by rw [he]; exact sgZ_sq b2
  have eb : e * b2 = H := by rw [he, hH]; exact sgZ_ab b2
  have e1 : e.natAbs = 1 := by rw [he]; exact sgZ_1 b2
  have HH : H * H = b2 * b2 := by rw [← eb]; grind
  have H1 : H.natAbs ≤ 21 := by omega
  obtain ⟨t1, ht1⟩ : ∃ t1, t1 = a3 * e := ⟨_, rfl⟩
  have nt1 : t1.natAbs ≤ 7 := by
    have := nm ha.2.2.2 (Nat.le_of_eq e1)
    rw [ht1]
    exact this
  obtain ⟨x2, hx2⟩ : ∃ x2, x2 = a2 * H - t1 * b1 := ⟨_, rfl⟩
  obtain ⟨x1, hx1⟩ : ∃ x1, x1 = a1 * H - t1 * b0 := ⟨_, rfl⟩
  have n2 : x2.natAbs ≤ 294 := by
    have := nm ha.2.2.1 H1
    have := nm nt1 hb.2.1
    rw [hx2]
    omega
  have n1 : x1.natAbs ≤ 294 := by
    have := nm ha.2.1 H1
    have := nm nt1 hb.1
    rw [hx1]
    omega
  obtain ⟨t0, ht0⟩ : ∃ t0, t0 = x2 * e := ⟨_, rfl⟩
  have nt0 : t0.natAbs ≤ 294 := by
    have := nm n2 (Nat.le_of_eq e1)
    rw [ht0]
    exact this
  refine ⟨(a0 * H) * H - t0 * b0, x1 * H - t0 * b1, t0, t1 * H, ?_, ?_, ?_, ?_, ?_, ?_, ?_⟩
  · have q3 : (a3 * H).natAbs < 2 ^ 62 := by
      have := nm ha.2.2.2 H1
      omega
    have q2 : (x2 * H).natAbs < 2 ^ 62 := by
      have := nm n2 H1
      omega
    unfold dvZ
    show ∃ O, dwS b2 [b0, b1, b2, b3] 2 2 [a0, a1, a2, a3] [0, 0, 0, 0] = some (_, O)
    rw [dwS_st h0 (by rw [← hH]; exact q3), ← hH, ← he]
    show ∃ O, dwS b2 [b0, b1, b2, b3] 2 1 [a0 * H, a1 * H - a3 * e * b0, a2 * H - a3 * e * b1, a3 * H - a3 * e * b2] [0 * H, a3 * e, 0 * H, 0 * H] = some (_, O)
    have z3 : a3 * H - a3 * e * b2 = 0 := by rw [← eb]; grind
    rw [z3, ← ht1, ← hx1, ← hx2, dwS_st h0 (by rw [← hH]; exact q2), ← hH, ← he]
    show ∃ O, dwS b2 [b0, b1, b2, b3] 2 0 [a0 * H * H - x2 * e * b0, x1 * H - x2 * e * b1, x2 * H - x2 * e * b2, 0 * H] [x2 * e, t1 * H, 0 * H * H, 0 * H * H] = some (_, O)
    have z2 : x2 * H - x2 * e * b2 = 0 := by rw [← eb]; grind
    rw [z2, ← ht0, Int.zero_mul, dwS]
    exact ⟨_, rfl⟩
  · have := nm (nm ha.1 H1) H1
    have := nm nt0 hb.1
    omega
  · have := nm n1 H1
    have := nm nt0 hb.2.1
    omega
  · rw [← HH]; grind
  · rw [hx1, ← HH]; grind
  · rw [ht0, hx2, ← HH]; grind
  · rw [ht1, ← HH]; grind
/-- a square by a line -/
theorem dv21 {a0 a1 a2 b0 b1 b2 b3 : Int} {m n : Nat} (h0 : b1 ≠ 0) (ha : a0.natAbs ≤ m ∧ a1.natAbs ≤ m ∧ a2.natAbs ≤ m) (hb : b0.natAbs ≤ n ∧ b1.natAbs ≤ n) (hmn : 4 * (m * n * n) < 2 ^ 60) (hn : 1 ≤ n) : ∃ l0 o0 o1 : Int, (∃ O, dvZ [a0, a1, a2, 0] [b0, b1, b2, b3] 2 1 = some ([l0, 0, 0, 0], O)) ∧ l0.natAbs ≤ 3 * (m * n * n) ∧ b1 * b1 * a0 = o0 * b0 + l0 ∧ b1 * b1 * a1 = o0 * b1 + o1 * b0 ∧ b1 * b1 * a2 = o1 * b1 := by
  obtain ⟨H, hH⟩ : ∃ H : Int, H = b1.natAbs := ⟨_, rfl⟩
  obtain ⟨e, he⟩ : ∃ e : Int, e = sgZ b1 := ⟨_, rfl⟩
  have ee : e * e = 1 := by rw [he]; exact sgZ_sq b1
  have eb : e * b1 = H := by rw [he, hH]; exact sgZ_ab b1
  have e1 : e.natAbs = 1 := by rw [he]; exact sgZ_1 b1
  have HH : H * H = b1 * b1 := by rw [← eb]; grind
  have H1 : H.natAbs ≤ n := by omega
  have g1 : m * n ≤ m * n * n := Nat.le_mul_of_pos_right _ hn
  obtain ⟨t1, ht1⟩ : ∃ t1, t1 = a2 * e := ⟨_, rfl⟩
  have nt1 : t1.natAbs ≤ m := by
    have := nm ha.2.2 (Nat.le_of_eq e1)
    rw [ht1]
    omega
  obtain ⟨x1, hx1⟩ : ∃ x1, x1 = a1 * H - t1 * b0 := ⟨_, rfl⟩
  have n1 : x1.natAbs ≤ 2 * (m * n) := by
    have := nm ha.2.1 H1
    have := nm nt1 hb.1
    rw [hx1]
    omega
  obtain ⟨t0, ht0⟩ : ∃ t0, t0 = x1 * e := ⟨_, rfl⟩
  have nt0 : t0.natAbs ≤ 2 * (m * n) := by
    have := nm n1 (Nat.le_of_eq e1)
    rw [ht0]
    omega
  have g2 : 2 * (m * n) * n = 2 * (m * n * n) := Nat.mul_assoc _ _ _
  refine ⟨(a0 * H) * H - t0 * b0, t0, t1 * H, ?_, ?_, ?_, ?_, ?_⟩
  · have q2 : (a2 * H).natAbs < 2 ^ 62 := by
      have := nm ha.2.2 H1
      omega
    have q1 : (x1 * H).natAbs < 2 ^ 62 := by
      have := nm n1 H1
      omega
    unfold dvZ
    show ∃ O, dwS b1 [b0, b1, b2, b3] 1 2 [a0, a1, a2, 0] [0, 0, 0, 0] = some (_, O)
    rw [dwS_st h0 (by rw [← hH]; exact q2), ← hH, ← he]
    show ∃ O, dwS b1 [b0, b1, b2, b3] 1 1 [a0 * H, a1 * H - a2 * e * b0, a2 * H - a2 * e * b1, 0 * H] [0 * H, a2 * e, 0 * H, 0 * H] = some (_, O)
    have z2 : a2 * H - a2 * e * b1 = 0 := by rw [← eb]; grind
    rw [z2, ← ht1, ← hx1, dwS_st h0 (by rw [← hH]; exact q1), ← hH, ← he]
    show ∃ O, dwS b1 [b0, b1, b2, b3] 1 0 [a0 * H * H - x1 * e * b0, x1 * H - x1 * e * b1, 0 * H, 0 * H * H] [x1 * e, t1 * H, 0 * H * H, 0 * H * H] = some (_, O)
    have z1 : x1 * H - x1 * e * b1 = 0 := by rw [← eb]; grind
    rw [z1, ← ht0, Int.zero_mul, Int.zero_mul, dwS]
    exact ⟨_, rfl⟩
  · have := nm (nm ha.1 H1) H1
    have := nm nt0 hb.1
    omega
  · rw [← HH]; grind
  · rw [ht0, hx1, ← HH]; grind
  · rw [ht1, ← HH]; grind
/-- by 1 or -1 -/
theorem dv_one {a0 a1 a2 a3 e : Int} {d : Nat} (he : e = 1 ∨ e = -1) (hd : d ≤ 3) (h3 : d < 3 → a3 = 0) (h2 : d < 2 → a2 = 0) (h1 : d < 1 → a1 = 0) (ha : a0.natAbs ≤ 7 ∧ a1.natAbs ≤ 7 ∧ a2.natAbs ≤ 7 ∧ a3.natAbs ≤ 7) : ∃ L, dvZ [a0, a1, a2, a3] [e, 0, 0, 0] d 0 = some (L, [a0 * e, a1 * e, a2 * e, a3 * e]) := by
  have ne : e ≠ 0 := by omega
  have ab : ((e.natAbs : Nat) : Int) = 1 := by omega
  have sg : sgZ e = e := by
    rcases he with rfl | rfl <;> rfl
  have ss : e * e = 1 := by
    rcases he with rfl | rfl <;> rfl
  have k : ∀ x : Int, x * 1 - x * e * e = 0 := fun x => by grind
  have q : ∀ x : Int, x.natAbs ≤ 7 → (x * (1 : Int)).natAbs < 2 ^ 62 := fun x hx => by omega
  have st : ∀ (x0 x1 x2 x3 : Int) (s : Nat) (O : List Int), (gZ [x0, x1, x2, x3] s).natAbs ≤ 7 → dwS e [e, 0, 0, 0] 0 (s + 1) [x0, x1, x2, x3] O = dwS e [e, 0, 0, 0] 0 s (dvI (gZ [x0, x1, x2, x3] s * e) [e, 0, 0, 0] s 1 (mulZ 1 [x0, x1, x2, x3])) ((mulZ 1 O).set s (gZ [x0, x1, x2, x3] s * e)) := fun x0 x1 x2 x3 s O hs => by
    have := dwS_st (h := e) (b := [e, 0, 0, 0]) (bd := 0) (s := s) (L := [x0, x1, x2, x3]) (O := O) ne (by rw [ab]; exact q _ hs)
    rw [ab, sg] at this
    exact this
  unfold dvZ
  show ∃ L, dwS e [e, 0, 0, 0] 0 (d - 0 + 1) [a0, a1, a2, a3] [0, 0, 0, 0] = some (L, _)
  rcases (by omega : d = 0 ∨ d = 1 ∨ d = 2 ∨ d = 3) with rfl | rfl | rfl | rfl
  · rw [h3 (by omega), h2 (by omega), h1 (by omega)]
    rw [st a0 0 0 0 0 _ ha.1]
    show ∃ L, dwS e [e, 0, 0, 0] 0 0 [a0 * 1 - a0 * e * e, 0 * 1, 0 * 1, 0 * 1] [a0 * e, 0 * 1, 0 * 1, 0 * 1] = some (L, _)
    rw [dwS]
    simp only [Int.mul_one, Int.zero_mul]
    exact ⟨_, rfl⟩
  · rw [h3 (by omega), h2 (by omega)]
    rw [st a0 a1 0 0 1 _ ha.2.1]
    show ∃ L, dwS e [e, 0, 0, 0] 0 1 [a0 * 1, a1 * 1 - a1 * e * e, 0 * 1, 0 * 1] [0 * 1, a1 * e, 0 * 1, 0 * 1] = some (L, _)
    rw [Int.mul_one a0, st a0 _ _ _ 0 _ ha.1]
    show ∃ L, dwS e [e, 0, 0, 0] 0 0 [a0 * 1 - a0 * e * e, _, _, _] [a0 * e, a1 * e * 1, 0 * 1 * 1, 0 * 1 * 1] = some (L, _)
    rw [dwS]
    simp only [Int.mul_one, Int.zero_mul]
    exact ⟨_, rfl⟩
  · rw [h3 (by omega)]
    rw [st a0 a1 a2 0 2 _ ha.2.2.1]
    show ∃ L, dwS e [e, 0, 0, 0] 0 2 [a0 * 1, a1 * 1, a2 * 1 - a2 * e * e, 0 * 1] [0 * 1, 0 * 1, a2 * e, 0 * 1] = some (L, _)
    rw [Int.mul_one a0, Int.mul_one a1, st a0 a1 _ _ 1 _ ha.2.1]
    show ∃ L, dwS e [e, 0, 0, 0] 0 1 [a0 * 1, a1 * 1 - a1 * e * e, _, _] [0 * 1 * 1, a1 * e, a2 * e * 1, 0 * 1 * 1] = some (L, _)
    rw [Int.mul_one a0, st a0 _ _ _ 0 _ ha.1]
    show ∃ L, dwS e [e, 0, 0, 0] 0 0 [a0 * 1 - a0 * e * e, _, _, _] [a0 * e, a1 * e * 1, a2 * e * 1 * 1, 0 * 1 * 1 * 1] = some (L, _)
    rw [dwS]
    simp only [Int.mul_one, Int.zero_mul]
    exact ⟨_, rfl⟩
  · rw [st a0 a1 a2 a3 3 _ ha.2.2.2]
    show ∃ L, dwS e [e, 0, 0, 0] 0 3 [a0 * 1, a1 * 1, a2 * 1, a3 * 1 - a3 * e * e] [0 * 1, 0 * 1, 0 * 1, a3 * e] = some (L, _)
    rw [Int.mul_one a0, Int.mul_one a1, Int.mul_one a2, st a0 a1 a2 _ 2 _ ha.2.2.1]
    show ∃ L, dwS e [e, 0, 0, 0] 0 2 [a0 * 1, a1 * 1, a2 * 1 - a2 * e * e, _] [0 * 1 * 1, 0 * 1 * 1, a2 * e, a3 * e * 1] = some (L, _)
    rw [Int.mul_one a0, Int.mul_one a1, st a0 a1 _ _ 1 _ ha.2.1]
    show ∃ L, dwS e [e, 0, 0, 0] 0 1 [a0 * 1, a1 * 1 - a1 * e * e, _, _] [0 * 1 * 1 * 1, a1 * e, a2 * e * 1, a3 * e * 1 * 1] = some (L, _)
    rw [Int.mul_one a0, st a0 _ _ _ 0 _ ha.1]
    show ∃ L, dwS e [e, 0, 0, 0] 0 0 [a0 * 1 - a0 * e * e, _, _, _] [a0 * e, a1 * e * 1, a2 * e * 1 * 1, a3 * e * 1 * 1 * 1] = some (L, _)
    rw [dwS]
    simp only [Int.mul_one, Int.zero_mul]
    exact ⟨_, rfl⟩
end
