/-! THE PURE PART, words: letters, one replacing, the next ones (no machine in it). -/
section
def bl : Nat → Nat → Nat
  | 0, _ => 0
  | k + 1, r => if r = 0 then 0 else bl k (r / 2) + 1
/-- how many letters -/
def lt (w : Nat) : Nat := bl 10 (w / 2)
set_option maxRecDepth 100000 in
theorem lt_b : ∀ w, w < 256 → 0 < w → 2 ^ lt w ≤ w ∧ w < 2 ^ (lt w + 1) ∧ lt w ≤ 7 := by decide +kernel
theorem lt_un {w k : Nat} (hw : w < 256) (h1 : 2 ^ k ≤ w) (h2 : w < 2 ^ (k + 1)) : lt w = k := by
  have p := Nat.two_pow_pos k
  obtain ⟨a, b, _⟩ := lt_b w hw (by omega)
  rcases Nat.lt_trichotomy (lt w) k with z | z | z
  · have : (2 : Nat) ^ (lt w + 1) ≤ 2 ^ k := Nat.pow_le_pow_right (by decide) z
    omega
  · exact z
  · have : (2 : Nat) ^ (k + 1) ≤ 2 ^ lt w := Nat.pow_le_pow_right (by decide) z
    omega
/-- the letters x stand in w ahead of the last be ones, behind h -/
def wd (h x be t : Nat) : Nat := (h * 2 ^ lt x + (x - 2 ^ lt x)) * 2 ^ be + t
theorem wd_b {h x be t : Nat} (hx : x < 256) (h0 : 0 < x) (hh : 0 < h) (ht : t < 2 ^ be) : 2 ^ (lt x + be) ≤ wd h x be t ∧ wd h x be t < (h + 1) * 2 ^ (lt x + be) ∧ h * 2 ^ (lt x + be) ≤ wd h x be t := by
  obtain ⟨a, b, _⟩ := lt_b x hx h0
  have e : (2 : Nat) ^ (lt x + be) = 2 ^ lt x * 2 ^ be := Nat.pow_add 2 _ _
  have e2 : (2 : Nat) ^ (lt x + 1) = 2 ^ lt x * 2 := Nat.pow_succ 2 _
  unfold wd
  have lo : h * 2 ^ (lt x + be) ≤ (h * 2 ^ lt x + (x - 2 ^ lt x)) * 2 ^ be + t := by
    rw [e, ← Nat.mul_assoc]
    exact Nat.le_trans (Nat.mul_le_mul_right _ (Nat.le_add_right _ _)) (Nat.le_add_right _ _)
  have hi : (h * 2 ^ lt x + (x - 2 ^ lt x)) * 2 ^ be + t < (h + 1) * 2 ^ (lt x + be) := by
    have s1 : h * 2 ^ lt x + (x - 2 ^ lt x) + 1 ≤ (h + 1) * 2 ^ lt x := by
      rw [Nat.succ_mul]
      omega
    have s2 : (h * 2 ^ lt x + (x - 2 ^ lt x) + 1) * 2 ^ be ≤ (h + 1) * 2 ^ lt x * 2 ^ be := Nat.mul_le_mul_right _ s1
    rw [e, ← Nat.mul_assoc]
    rw [Nat.succ_mul] at s2
    omega
  refine ⟨?_, hi, lo⟩
  have : 1 * 2 ^ (lt x + be) ≤ h * 2 ^ (lt x + be) := Nat.mul_le_mul_right _ hh
  omega
theorem wd_div {h x be t : Nat} (hx : x < 256) (h0 : 0 < x) (ht : t < 2 ^ be) : wd h x be t / 2 ^ be % 2 ^ lt x = x - 2 ^ lt x ∧ wd h x be t / 2 ^ (be + lt x) = h ∧ wd h x be t % 2 ^ be = t := by
  obtain ⟨a, b, _⟩ := lt_b x hx h0
  have e2 : (2 : Nat) ^ (lt x + 1) = 2 ^ lt x * 2 := Nat.pow_succ 2 _
  have p := Nat.two_pow_pos be
  have q := Nat.two_pow_pos (lt x)
  have d1 : wd h x be t / 2 ^ be = h * 2 ^ lt x + (x - 2 ^ lt x) := by
    unfold wd
    rw [Nat.add_comm, Nat.add_mul_div_right _ _ p, Nat.div_eq_of_lt ht, Nat.zero_add]
  refine ⟨?_, ?_, ?_⟩
  · rw [d1, Nat.add_comm, Nat.add_mul_mod_self_right]
    exact Nat.mod_eq_of_lt (by omega)
  · rw [Nat.pow_add, ← Nat.div_div_eq_div_mul, d1, Nat.add_comm, Nat.add_mul_div_right _ _ q, Nat.div_eq_of_lt (by omega), Nat.zero_add]
  · unfold wd
    rw [Nat.add_comm, Nat.add_mul_mod_self_right]
    exact Nat.mod_eq_of_lt ht
/-- the letters of a word that is so made -/
theorem wd_lt {h x be t : Nat} (hx : x < 256) (h0 : 0 < x) (hh : 0 < h) (hh2 : h < 256) (ht : t < 2 ^ be) (hw : wd h x be t < 256) : lt (wd h x be t) = lt h + lt x + be := by
  obtain ⟨a, b, c⟩ := wd_b (be := be) hx h0 hh ht
  obtain ⟨d, e, _⟩ := lt_b h hh2 hh
  refine lt_un hw ?_ ?_
  · rw [Nat.add_assoc, Nat.pow_add]
    exact Nat.le_trans (Nat.mul_le_mul_right _ d) c
  · have s : (h + 1) * 2 ^ (lt x + be) ≤ 2 ^ (lt h + 1) * 2 ^ (lt x + be) := Nat.mul_le_mul_right _ e
    rw [← Nat.pow_add] at s
    rw [show lt h + lt x + be + 1 = lt h + 1 + (lt x + be) by omega]
    omega
/-- and each word with these letters there is so made -/
theorem wd_of {w x be : Nat} (hw : w < 256) (hx : x < 256) (h0 : 0 < x) (hm : w / 2 ^ be % 2 ^ lt x + 2 ^ lt x = x) : w = wd (w / 2 ^ (be + lt x)) x be (w % 2 ^ be) := by
  have e1 := Nat.div_add_mod w (2 ^ be)
  have e2 := Nat.div_add_mod (w / 2 ^ be) (2 ^ lt x)
  unfold wd
  rw [Nat.pow_add, ← Nat.div_div_eq_div_mul, show x - 2 ^ lt x = w / 2 ^ be % 2 ^ lt x by omega, Nat.mul_comm _ (2 ^ lt x), e2, Nat.mul_comm _ (2 ^ be), e1]
theorem wd_h {w x be : Nat} (hw : w < 256) (h0 : 0 < w) (hb : lt x + be ≤ lt w) : 0 < w / 2 ^ (be + lt x) := by
  obtain ⟨a, b, _⟩ := lt_b w hw h0
  refine Nat.div_pos ?_ (Nat.two_pow_pos _)
  have : (2 : Nat) ^ (be + lt x) ≤ 2 ^ lt w := Nat.pow_le_pow_right (by decide) (by omega)
  omega
/-- what comes of w when the letters x ahead of the last be ones become y -/
def rpV (w x y be : Nat) : Nat := wd (w / 2 ^ (be + lt x)) y be (w % 2 ^ be)
def rpG (w x y : Nat) : Nat → List Nat → List Nat
  | 0, l => l
  | k + 1, l => rpG w x y k (if w / 2 ^ k % 2 ^ lt x + 2 ^ lt x = x then l ++ [rpV w x y k] else l)
def rpL (b w x y : Nat) (l : List Nat) : List Nat := if lt w + lt y ≤ b + lt x ∧ lt x ≤ lt w then rpG w x y (lt w - lt x + 1) l else l
def nxG (A B : Nat → Nat) (b w : Nat) : Nat → List Nat
  | 0 => []
  | j + 1 => rpL b w (B (j + 1)) (A (j + 1)) (rpL b w (A (j + 1)) (B (j + 1)) (nxG A B b w j))
/-- one step -/
def stp (A B : Nat → Nat) (b m w u : Nat) : Prop := ∃ i x y h be t, 1 ≤ i ∧ i < m ∧ ((x = A i ∧ y = B i) ∨ (x = B i ∧ y = A i)) ∧ 0 < h ∧ t < 2 ^ be ∧ w = wd h x be t ∧ u = wd h y be t ∧ u < 2 ^ (b + 1)
theorem stp_sy {A B : Nat → Nat} {b m w u : Nat} (hw : w < 2 ^ (b + 1)) (h : stp A B b m w u) : stp A B b m u w := by
  obtain ⟨i, x, y, h, be, t, h1, h2, h3, h4, h5, h6, h7, h8⟩ := h
  exact ⟨i, y, x, h, be, t, h1, h2, h3.elim (fun z => Or.inr ⟨z.2, z.1⟩) (fun z => Or.inl ⟨z.2, z.1⟩), h4, h5, h7, h6, hw⟩
theorem rpG_mem {w x y u : Nat} : ∀ k l, u ∈ rpG w x y k l ↔ u ∈ l ∨ ∃ be, be < k ∧ w / 2 ^ be % 2 ^ lt x + 2 ^ lt x = x ∧ u = rpV w x y be
  | 0, l => by
    rw [rpG]
    exact ⟨Or.inl, fun h => h.elim (fun z => z) (fun ⟨be, z, _⟩ => absurd z (Nat.not_lt_zero _))⟩
  | k + 1, l => by
    rw [rpG, rpG_mem k]
    by_cases e : w / 2 ^ k % 2 ^ lt x + 2 ^ lt x = x
    · rw [if_pos e, List.mem_append, List.mem_singleton]
      constructor
      · rintro ((a | a) | ⟨be, a, c⟩)
        · exact Or.inl a
        · exact Or.inr ⟨k, by omega, e, a⟩
        · exact Or.inr ⟨be, by omega, c⟩
      · rintro (a | ⟨be, a, c, g⟩)
        · exact Or.inl (Or.inl a)
        · by_cases z : be = k
          · subst z
            exact Or.inl (Or.inr g)
          · exact Or.inr ⟨be, by omega, c, g⟩
    · rw [if_neg e]
      constructor
      · rintro (a | ⟨be, a, c⟩)
        · exact Or.inl a
        · exact Or.inr ⟨be, by omega, c⟩
      · rintro (a | ⟨be, a, c, g⟩)
        · exact Or.inl a
        · by_cases z : be = k
          · subst z
            exact absurd c e
          · exact Or.inr ⟨be, by omega, c, g⟩
theorem rpG_len {w x y : Nat} : ∀ k l, (rpG w x y k l).length ≤ l.length + k
  | 0, l => Nat.le_refl _
  | k + 1, l => by
    rw [rpG]
    refine Nat.le_trans (rpG_len k _) ?_
    by_cases e : w / 2 ^ k % 2 ^ lt x + 2 ^ lt x = x
    · rw [if_pos e, List.length_append]
      show l.length + 1 + k ≤ _
      omega
    · rw [if_neg e]
      omega
theorem rpL_len {b w x y : Nat} {l : List Nat} (hw : w < 256) (h0 : 0 < w) : (rpL b w x y l).length ≤ l.length + 8 := by
  have := (lt_b w hw h0).2.2
  unfold rpL
  by_cases e : lt w + lt y ≤ b + lt x ∧ lt x ≤ lt w
  · rw [if_pos e]
    refine Nat.le_trans (rpG_len _ l) ?_
    omega
  · rw [if_neg e]
    omega
theorem nxG_len {A B : Nat → Nat} {b w : Nat} (hw : w < 256) (h0 : 0 < w) : ∀ j, (nxG A B b w j).length ≤ 16 * j
  | 0 => Nat.le_refl _
  | j + 1 => by
    have := nxG_len (A := A) (B := B) (b := b) hw h0 j
    have h1 := rpL_len (b := b) (x := A (j + 1)) (y := B (j + 1)) (l := nxG A B b w j) hw h0
    have h2 := rpL_len (b := b) (x := B (j + 1)) (y := A (j + 1)) (l := rpL b w (A (j + 1)) (B (j + 1)) (nxG A B b w j)) hw h0
    rw [nxG]
    omega
/-- what a replacing gives: a word of the bound's length -/
theorem rpV_b {b w x y be : Nat} (hb : b ≤ 7) (hw : w < 2 ^ (b + 1)) (h0 : 0 < w) (hx : x < 32) (x0 : 0 < x) (hy : y < 32) (y0 : 0 < y) (h1 : lt w + lt y ≤ b + lt x) (h2 : be + lt x ≤ lt w) (hm : w / 2 ^ be % 2 ^ lt x + 2 ^ lt x = x) : 0 < w / 2 ^ (be + lt x) ∧ 0 < rpV w x y be ∧ rpV w x y be < 2 ^ (b + 1) := by
  have p8 : (2 : Nat) ^ (b + 1) ≤ 2 ^ 8 := Nat.pow_le_pow_right (by decide) (by omega)
  have hpos := wd_h (x := x) (be := be) (show w < 256 by omega) h0 (by omega)
  have tl := Nat.mod_lt w (Nat.two_pow_pos be)
  have ew := wd_of (show w < 256 by omega) (show x < 256 by omega) x0 hm
  have hle : w / 2 ^ (be + lt x) ≤ w := Nat.div_le_self _ _
  have e2 := wd_lt (show x < 256 by omega) x0 hpos (by omega) tl (by rw [← ew]; omega)
  rw [← ew] at e2
  obtain ⟨a, c, _⟩ := wd_b (be := be) (t := w % 2 ^ be) (show y < 256 by omega) y0 hpos tl
  obtain ⟨_, f, _⟩ := lt_b (w / 2 ^ (be + lt x)) (by omega) hpos
  have p := Nat.two_pow_pos (lt y + be)
  refine ⟨hpos, by unfold rpV; omega, ?_⟩
  have s : (w / 2 ^ (be + lt x) + 1) * 2 ^ (lt y + be) ≤ 2 ^ (lt (w / 2 ^ (be + lt x)) + 1) * 2 ^ (lt y + be) := Nat.mul_le_mul_right _ f
  rw [← Nat.pow_add] at s
  have : (2 : Nat) ^ (lt (w / 2 ^ (be + lt x)) + 1 + (lt y + be)) ≤ 2 ^ (b + 1) := Nat.pow_le_pow_right (by decide) (by omega)
  unfold rpV
  omega
theorem rpL_mem {b w x y u : Nat} {l : List Nat} (hb : b ≤ 7) (hw : w < 2 ^ (b + 1)) (h0 : 0 < w) (hx : x < 32) (x0 : 0 < x) (hy : y < 32) (y0 : 0 < y) : u ∈ rpL b w x y l ↔ u ∈ l ∨ ∃ h be t, 0 < h ∧ t < 2 ^ be ∧ w = wd h x be t ∧ u = wd h y be t ∧ u < 2 ^ (b + 1) := by
  have p8 : (2 : Nat) ^ (b + 1) ≤ 2 ^ 8 := Nat.pow_le_pow_right (by decide) (by omega)
  have key : (∃ be, be < lt w - lt x + 1 ∧ w / 2 ^ be % 2 ^ lt x + 2 ^ lt x = x ∧ u = rpV w x y be) ∧ (lt w + lt y ≤ b + lt x ∧ lt x ≤ lt w) ↔ ∃ h be t, 0 < h ∧ t < 2 ^ be ∧ w = wd h x be t ∧ u = wd h y be t ∧ u < 2 ^ (b + 1) := by
    constructor
    · rintro ⟨⟨be, a1, a2, a3⟩, a4, a5⟩
      obtain ⟨b1, b2, b3⟩ := rpV_b hb hw h0 hx x0 hy y0 a4 (show be + lt x ≤ lt w by omega) a2
      exact ⟨_, be, w % 2 ^ be, b1, Nat.mod_lt _ (Nat.two_pow_pos be), wd_of (by omega) (by omega) x0 a2, a3, by rw [a3]; exact b3⟩
    · rintro ⟨h, be, t, c1, c2, c3, c4, c5⟩
      obtain ⟨d1, d2, d3⟩ := wd_div (h := h) (x := x) (be := be) (t := t) (by omega) x0 c2
      have hle : h < 256 := by
        rw [← d2, ← c3]
        have := Nat.div_le_self w (2 ^ (be + lt x))
        omega
      have l1 := wd_lt (show x < 256 by omega) x0 c1 hle c2 (by rw [← c3]; omega)
      have l2 := wd_lt (show y < 256 by omega) y0 c1 hle c2 (by rw [← c4]; omega)
      rw [← c3] at l1 d1 d2 d3
      rw [← c4] at l2
      have u0 : 0 < u := by
        have := (wd_b (be := be) (t := t) (show y < 256 by omega) y0 c1 c2).1
        have := Nat.two_pow_pos (lt y + be)
        omega
      have lu : lt u ≤ b := by
        have := (lt_b u (by omega) u0).1
        rcases Nat.lt_or_ge b (lt u) with z | z
        · have : (2 : Nat) ^ (b + 1) ≤ 2 ^ lt u := Nat.pow_le_pow_right (by decide) z
          omega
        · exact z
      have xl := (lt_b x (by omega) x0).1
      refine ⟨⟨be, by omega, by rw [d1]; omega, ?_⟩, by omega, by omega⟩
      unfold rpV
      rw [d2, d3, c4]
  unfold rpL
  by_cases e : lt w + lt y ≤ b + lt x ∧ lt x ≤ lt w
  · rw [if_pos e, rpG_mem, ← key]
    exact ⟨fun h => h.elim Or.inl (fun z => Or.inr ⟨z, e⟩), fun h => h.elim Or.inl (fun z => Or.inr z.1)⟩
  · rw [if_neg e, ← key]
    exact ⟨Or.inl, fun h => h.elim (fun z => z) (fun z => absurd z.2 e)⟩
/-- the question of words: item 0 the two words, then pairs -/
def qW (d : Nat → Int32) (m : Nat) (A B : Nat → Nat) : Prop := ∀ i, i < m → d (5 * i) = nI (A i) ∧ d (5 * i + 1) = nI (B i) ∧ 0 < A i ∧ 0 < B i ∧ A i < 256 ∧ B i < 256 ∧ (1 ≤ i → A i < 32 ∧ B i < 32)
theorem nxG_mem {A B : Nat → Nat} {b w u m : Nat} {d : Nat → Int32} (hq : qW d m A B) (hb : b ≤ 7) (hw : w < 2 ^ (b + 1)) (h0 : 0 < w) : ∀ j, j < m → (u ∈ nxG A B b w j ↔ stp A B b (j + 1) w u)
  | 0, _ => by
    rw [nxG]
    exact ⟨fun h => (List.not_mem_nil h).elim, fun ⟨i, _, _, _, _, _, h1, h2, _⟩ => by omega⟩
  | j + 1, hj => by
    have ih := nxG_mem (u := u) hq hb hw h0 j (by omega)
    obtain ⟨_, _, a1, a2, _, _, a3⟩ := hq (j + 1) hj
    obtain ⟨a4, a5⟩ := a3 (by omega)
    rw [nxG, rpL_mem hb hw h0 a5 a2 a4 a1, rpL_mem hb hw h0 a4 a1 a5 a2, ih]
    constructor
    · rintro ((⟨i, x, y, h, be, t, c1, c2, c3⟩ | ⟨h, be, t, c⟩) | ⟨h, be, t, c⟩)
      · exact ⟨i, x, y, h, be, t, c1, by omega, c3⟩
      · exact ⟨j + 1, _, _, h, be, t, by omega, by omega, Or.inl ⟨rfl, rfl⟩, c⟩
      · exact ⟨j + 1, _, _, h, be, t, by omega, by omega, Or.inr ⟨rfl, rfl⟩, c⟩
    · rintro ⟨i, x, y, h, be, t, c1, c2, c3, c4⟩
      by_cases z : i = j + 1
      · subst z
        rcases c3 with ⟨e1, e2⟩ | ⟨e1, e2⟩
        · rw [e1, e2] at c4
          exact Or.inl (Or.inr ⟨h, be, t, c4⟩)
        · rw [e1, e2] at c4
          exact Or.inr ⟨h, be, t, c4⟩
      · exact Or.inl (Or.inl ⟨i, x, y, h, be, t, c1, by omega, c3, c4⟩)
theorem stp_b {A B : Nat → Nat} {b m w u : Nat} {d : Nat → Int32} (hq : qW d m A B) (h : stp A B b m w u) : 0 < u ∧ u < 2 ^ (b + 1) := by
  obtain ⟨i, x, y, h, be, t, h1, h2, h3, h4, h5, h6, h7, h8⟩ := h
  obtain ⟨_, _, a1, a2, a6, a7, a3⟩ := hq i h2
  have y0 : 0 < y ∧ y < 256 := by
    rcases h3 with ⟨_, z⟩ | ⟨_, z⟩
    · rw [z]
      exact ⟨a2, a7⟩
    · rw [z]
      exact ⟨a1, a6⟩
  have := (wd_b (be := be) (t := t) y0.2 y0.1 h4 h5).1
  have := Nat.two_pow_pos (lt y + be)
  exact ⟨by omega, h8⟩
end
