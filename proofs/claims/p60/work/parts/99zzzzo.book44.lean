/-! REDUCTIONS: what is carried over is answered alike. -/
section
theorem flowOK_cg {m y b : Nat} {A B C A' B' C' : Nat → Nat} {xs : List Int32} (h : ∀ i, i < m → A i = A' i ∧ B i = B' i ∧ C i = C' i) (hf : flowOK m y A B C b xs) : flowOK m y A' B' C' b xs := by
  obtain ⟨f1, f2, f3, f4⟩ := hf
  have e : ∀ f v, exs A B f v m = exs A' B' f v m := fun f v => by
    rw [exs_d, exs_d]
    exact dsz_congr m (fun j hj => by rw [(h j hj).1, (h j hj).2.1])
  refine ⟨f1, fun i hi => by rw [← (h i hi).2.2]; exact f2 i hi, fun v v1 v2 => by rw [← e]; exact f3 v v1 v2, by rw [← e]; exact f4⟩
theorem barOK_cg {m y b : Nat} {A B C A' B' C' : Nat → Nat} {xs : List Int32} (h : ∀ i, i < m → A i = A' i ∧ B i = B' i ∧ C i = C' i) (hf : barOK m y A B C b xs) : barOK m y A' B' C' b xs := by
  obtain ⟨f1, f2, f3, f4, f5⟩ := hf
  refine ⟨f1, f2, f3, f4, ?_⟩
  rw [← nsum_cg (f := barW (rowSt xs) A B C) m (fun i hi => by
    unfold barW
    rw [(h i hi).1, (h i hi).2.1, (h i hi).2.2])]
  exact f5
abbrev qmA (q : qT) : Nat → Nat := cA (Qd q)
abbrev qmB (q : qT) : Nat → Nat := cB (Qd q)
abbrev prQ (q : qT) (a : Nat) (row : List Int32) : List Int32 := pwR (qmA q) (qmB q) (fun j => decide (row.getD (a + j) 0 = 1)) (Qs q) (Qm q)
abbrev ndQ (q : qT) (row : List Int32) : List Int32 := filL (fun v => lfB (Qs q) (Qm q) (qmA q) (qmB q) v != rowSt row (v + 1)) (Qs q)
abbrev okFq (q : qT) : Prop := okF (Qs q) (Qm q) (qmA q) (qmB q)
abbrev flq (q : qT) (b : Int32) : qT := flQ (Qs q) (Qm q) b.toNatClampNeg (qmA q) (qmB q) (lfB (Qs q) (Qm q) (qmA q) (qmB q))
def crsR (q : qT) (b : Int32) (dq : qT) : Prop := okIt dq ∧ bndQ (Qk dq) (Qb dq) ∧ Ql dq < 0 ∧ aRp dq (Qb dq) = aRp q b ∧
  ((Qk dq = 1 ∧ Qk q = 0 ∧ okFq q ∧ ∀ row, (aYs dq (Qb dq) row → aYs q b (prQ q (Qs q) row)) ∧ (aNo dq (Qb dq) row → aNo q b (ndQ q row) ∧ ∀ i, i + 1 < row.length → row.getD i 0 < row.getD (i + 1) 0)) ∨
  (Qk dq = 3 ∧ Qk q = 1 ∧ ∀ row, aYs dq (Qb dq) row → row.getD 0 0 = 1 → aYs q b (row.drop 1)) ∨
  (Qk dq = 4 ∧ Qk q = 0 ∧ ∀ row, aYs dq (Qb dq) row → aYs q b (prQ q 0 row)))
theorem rp_eq {q dq : qT} {b bd : Int32} (h1 : okIt q) (h2 : bndQ (Qk q) b) (h3 : okIt dq) (h4 : bndQ (Qk dq) bd) (hy : aRp dq bd = 121 → aRp q b = 110 → False) (hn : aRp dq bd = 110 → aRp q b = 121 → False) : aRp dq bd = aRp q b := by
  have a := (ansT_ok h1 h2).1
  have c := (ansT_ok h3 h4).1
  rcases c with c | c <;> rcases a with a | a
  · rw [c, a]
  · exact (hy c a).elim
  · exact (hn c a).elim
  · rw [c, a]
theorem m_items {q : qT} (h : okIt q) (hk : Qk q = 0) : (1 ≤ Qs q ∧ Qs q ≤ 9 ∧ Qm q ≤ 16) ∧ (∀ i, i < Qm q → Qd q (5 * i) = nI (qmA q i) ∧ Qd q (5 * i + 1) = nI (qmB q i) ∧ qmA q i < Qs q ∧ qmB q i < Qs q ∧ qmA q i ≠ qmB q i) ∧ ∀ i j, i < Qm q → j < Qm q → (qmA q i = qmA q j ∧ qmB q i = qmB q j ∨ qmA q i = qmB q j ∧ qmB q i = qmA q j) → i = j := by
  obtain ⟨_, s1, s2, m1, hi, hds⟩ := id h
  have m16 := h.m16
  rw [hk] at s1 s2 hi hds
  have s1 : 1 ≤ Qs q := s1
  have s2 : Qs q ≤ 9 := s2
  refine ⟨⟨s1, s2, m16⟩, fun i him => ?_, fun i j i1 j1 => hds (by decide) i j i1 j1⟩
  obtain ⟨a, e, x0, x1, y1, y2, y3⟩ := (hi i him).1 (by decide)
  have x0 : Qd q (5 * i) = nI a := x0
  have x1 : Qd q (5 * i + 1) = nI e := x1
  unfold qmA qmB cA cB
  rw [x0, x1, nI_clamp (by omega), nI_clamp (by omega)]
  exact ⟨rfl, rfl, y1, y2, y3⟩
theorem itK_1 {s i a c f : Nat} {x : Nat → Int32} (h0 : x 0 = nI a) (h1 : x 1 = nI c) (h2 : x 2 = nI f) (ha : a < s) (hc : c < s) (hac : a ≠ c) (hf : f ≤ 6) : itK 1 s i x := ⟨fun h => absurd h (by decide), fun _ => ⟨a, c, f, h0, h1, h2, ha, hc, hac, hf⟩, fun h => absurd h (by decide), fun h => absurd h (by decide), fun h => absurd h (by decide), fun h => absurd h (by decide), fun h => absurd h (by decide), fun h => absurd h (by decide), fun h => absurd h (by decide), fun h => absurd h (by decide)⟩
theorem itK_3 {s i : Nat} {x : Nat → Int32} (h : (∀ j, j < s → (x j).toInt.natAbs ≤ 9) ∧ (x 4).toInt.natAbs ≤ 60) : itK 3 s i x := ⟨fun h => absurd h (by decide), fun h => absurd h (by decide), fun _ => h, fun h => absurd h (by decide), fun h => absurd h (by decide), fun h => absurd h (by decide), fun h => absurd h (by decide), fun h => absurd h (by decide), fun h => absurd h (by decide), fun h => absurd h (by decide)⟩
theorem itK_4 {s i : Nat} {x : Nat → Int32} (h : rw4 s x) : itK 4 s i x := ⟨fun h => absurd h (by decide), fun h => absurd h (by decide), fun h => absurd h (by decide), fun _ => h, fun h => absurd h (by decide), fun h => absurd h (by decide), fun h => absurd h (by decide), fun h => absurd h (by decide), fun h => absurd h (by decide), fun h => absurd h (by decide)⟩
theorem cr_f {q : qT} {b : Int32} (h : okIt q) (hk : Qk q = 0) (hb : bndQ (Qk q) b) (ok : okFq q) : crsR q b (flq q b) := by
  obtain ⟨⟨s1, s2, m16⟩, hd, _⟩ := m_items h hk
  obtain ⟨ok1, ok2, ok3⟩ := id ok
  have hb' := hb
  rw [hk] at hb'
  obtain ⟨b1, b2⟩ := hb'
  have b1 : 0 ≤ b.toInt := b1
  have b2 : b.toInt ≤ 9 := b2
  obtain ⟨c, ec, c1, c2⟩ := nat_b (b := b) (n := 9) (by omega) (by omega)
  have hA := lf_ok (m := Qm q) (A := qmA q) (B := qmB q) s2 (by omega) (fun j hj => ⟨(hd j hj).2.2.1, (hd j hj).2.2.2.1, (hd j hj).2.2.2.2⟩) ok1
  have ea : ∀ i, i < Qs q + Qm q → ∀ c', c' < 5 → Qd (flq q b) (5 * i + c') = fiN (Qs q) (lfB (Qs q) (Qm q) (qmA q) (qmB q)) (qmA q) (qmB q) i c' := fun i hi c' hc' => fl_at hi hc'
  have rng : ∀ i, i < Qs q + Qm q → bA (Qs q) (lfB (Qs q) (Qm q) (qmA q) (qmB q)) (qmA q) (qmB q) i < Qs q + 2 ∧ bB (Qs q) (lfB (Qs q) (Qm q) (qmA q) (qmB q)) (qmA q) (qmB q) i < Qs q + 2 ∧ bA (Qs q) (lfB (Qs q) (Qm q) (qmA q) (qmB q)) (qmA q) (qmB q) i ≠ bB (Qs q) (lfB (Qs q) (Qm q) (qmA q) (qmB q)) (qmA q) (qmB q) i := fun i hi => by
    by_cases z : i < Qs q
    · obtain ⟨e1, e2⟩ := bAB_lo (lf := lfB (Qs q) (Qm q) (qmA q) (qmB q)) (A := qmA q) (B := qmB q) z
      rw [e1, e2]
      split <;> omega
    · obtain ⟨j, rfl⟩ : ∃ j, i = Qs q + j := ⟨i - Qs q, by omega⟩
      obtain ⟨e1, e2⟩ := bAB_hi (s := Qs q) (j := j) (lf := lfB (Qs q) (Qm q) (qmA q) (qmB q)) (A := qmA q) (B := qmB q)
      obtain ⟨a1, a2, a3, _⟩ := hA j (by omega)
      rw [e1, e2]
      split <;> omega
  have k1 : okIt (flq q b) := by
    refine ⟨show 1 < 12 by decide, show 2 ≤ Qs q + 2 by omega, show Qs q + 2 ≤ 7 from ok2, show Qs q + Qm q ≤ 10 from ok3, fun i hi => ?_, fun z => absurd (show (1 : Nat) = 0 ∨ (1 : Nat) = 2 from z) (by decide)⟩
    have hi : i < Qs q + Qm q := hi
    obtain ⟨r1, r2, r3⟩ := rng i hi
    exact itK_1 (ea i hi 0 (by decide)) (ea i hi 1 (by decide)) (show Qd (flq q b) (5 * i + 2) = nI 1 from ea i hi 2 (by decide)) r1 r2 r3 (by decide)
  have hbd : bndQ (Qk (flq q b)) (Qb (flq q b)) := by
    show 0 ≤ (nI ((Qs q - b.toNatClampNeg + 1) / 2)).toInt ∧ (nI ((Qs q - b.toNatClampNeg + 1) / 2)).toInt ≤ 60
    rw [nI_toInt (by omega)]
    omega
  have ebd : (Qb (flq q b)).toNatClampNeg = (Qs q - b.toNatClampNeg + 1) / 2 := by
    show (nI ((Qs q - b.toNatClampNeg + 1) / 2)).toNatClampNeg = _
    rw [nI_clamp (by omega)]
  have AP := ansT_ok h hb
  have AD := ansT_ok k1 hbd
  have cg : ∀ i, i < Qs q + Qm q → cA (Qd (flq q b)) i = bA (Qs q) (lfB (Qs q) (Qm q) (qmA q) (qmB q)) (qmA q) (qmB q) i ∧ cB (Qd (flq q b)) i = bB (Qs q) (lfB (Qs q) (Qm q) (qmA q) (qmB q)) (qmA q) (qmB q) i ∧ cC (Qd (flq q b)) i = 1 := fun i hi => by
    obtain ⟨r1, r2, r3⟩ := rng i hi
    unfold cA cB cC
    rw [show Qd (flq q b) (5 * i) = nI (bA (Qs q) (lfB (Qs q) (Qm q) (qmA q) (qmB q)) (qmA q) (qmB q) i) from ea i hi 0 (by decide), show Qd (flq q b) (5 * i + 1) = nI (bB (Qs q) (lfB (Qs q) (Qm q) (qmA q) (qmB q)) (qmA q) (qmB q) i) from ea i hi 1 (by decide), show Qd (flq q b) (5 * i + 2) = nI 1 from ea i hi 2 (by decide), nI_clamp (by omega), nI_clamp (by omega), nI_clamp (by omega)]
    exact ⟨rfl, rfl, rfl⟩
  have LD := AD.2.2.2.2.1.2.1 rfl
  have LP := AP.2.2.2.2.1.1 hk
  have yes : ∀ row, aYs (flq q b) (Qb (flq q b)) row → aYs q b (prQ q (Qs q) row) := fun row hy => by
    have f := (LD row).1.mp hy
    rw [ebd] at f
    have f : flowOK (Qs q + Qm q) (Qs q) (cA (Qd (flq q b))) (cB (Qd (flq q b))) (cC (Qd (flq q b))) ((Qs q - b.toNatClampNeg + 1) / 2) row := f
    exact (LP _).1.mpr (pairs_flow (lf := lfB (Qs q) (Qm q) (qmA q) (qmB q)) s2 hA (flowOK_cg cg f) (by omega))
  have no : ∀ row, aNo (flq q b) (Qb (flq q b)) row → aNo q b (ndQ q row) ∧ ∀ i, i + 1 < row.length → row.getD i 0 < row.getD (i + 1) 0 := fun row hy => by
    have f := (LD row).2.mp hy
    rw [ebd] at f
    have f : barOK (Qs q + Qm q) (Qs q) (cA (Qd (flq q b))) (cB (Qd (flq q b))) (cC (Qd (flq q b))) ((Qs q - b.toNatClampNeg + 1) / 2) row := f
    exact ⟨(LP _).2.mpr (nodes_bar (lf := lfB (Qs q) (Qm q) (qmA q) (qmB q)) s2 hA (barOK_cg cg f) (by omega)), fun i hi => f.2.2.1 i (Nat.zero_le _) hi⟩
  refine ⟨k1, hbd, (by decide : (-1 : Int32) < 0), ?_, Or.inl ⟨rfl, hk, ok, fun row => ⟨yes row, no row⟩⟩⟩
  refine rp_eq h hb k1 hbd (fun e1 e2 => ?_) (fun e1 e2 => ?_)
  · exact AP.2.2.2.1 _ _ (yes _ (AD.2.1 e1)) (AP.2.2.1 e2)
  · exact AP.2.2.2.1 _ _ (AP.2.1 e2) (no _ (AD.2.2.1 e1)).1
theorem cr_s {q dq : qT} {b : Int32} (h : okIt q) (hk : Qk q = 0) (hb : bndQ (Qk q) b) (b0 : b = 0) (m1 : 1 ≤ Qm q) (m6 : Qm q ≤ 6) (M12 : Qm dq ≤ 12) (hs : sIn (Qm q) dq (fun T => PC (Qm q) (Qs q) (qmA q) (qmB q) T ∧ PR (Qm q) (qmA q) (qmB q) (Qm q) 0 T)) : crsR q b dq := by
  obtain ⟨⟨s1, s2, m16⟩, hd, hds⟩ := m_items h hk
  obtain ⟨a1, a2, a3, a4, a5⟩ := hs
  obtain ⟨c1, c2⟩ := a5 (by omega)
  have eb : Qb dq = nI (Qm q) := congrArg (fun t => t.1) a3
  have el : Ql dq = -1 := congrArg (fun t => t.2.1) a3
  have hAB : ∀ j, j < Qm q → qmA q j < Qs q ∧ qmB q j < Qs q ∧ qmA q j ≠ qmB q j := fun j hj => ⟨(hd j hj).2.2.1, (hd j hj).2.2.2.1, (hd j hj).2.2.2.2⟩
  have k1 : okIt dq := by
    unfold okIt
    rw [a1, a2]
    refine ⟨by decide, show 1 ≤ Qm q from m1, show Qm q ≤ 6 from m6, show Qm dq ≤ 12 from M12, fun i hi => itK_4 (c1 i hi), fun z => absurd z (by decide)⟩
  have hbd : bndQ (Qk dq) (Qb dq) := by
    rw [a1, eb]
    show 0 ≤ (nI (Qm q)).toInt ∧ (nI (Qm q)).toInt ≤ 6
    rw [nI_toInt (by omega)]
    omega
  have sc : sxP (Qd dq) (Qm dq) (Qm q) (Qs q) (qmA q) (qmB q) := fun T hT => (c2 T hT).trans (and_congr_right (fun _ => ⟨fun g i j hij hj => g i j hij hj (Or.inl (by omega)), fun g i j hij hj _ => g i j hij hj⟩))
  have AP := ansT_ok h hb
  have AD := ansT_ok k1 hbd
  have LD := AD.2.2.2.2.1.2.2.2 a1
  have LP := AP.2.2.2.2.1.1 hk
  rw [a2, eb, nI_clamp (by omega)] at LD
  rw [b0] at LP
  have LP : ∀ xs, (aYs q 0 xs ↔ pairOK (Qs q) (nrA (Qm q) (qmA q) (qmB q)) 0 xs) ∧ (aNo q 0 xs ↔ nodesOK (Qs q) (nrA (Qm q) (qmA q) (qmB q)) 0 xs) := LP
  have yes : ∀ row, aYs dq (Qb dq) row → aYs q b (prQ q 0 row) := fun row hy => by
    rw [eb] at hy
    rw [b0]
    exact (LP _).1.mpr (pairs_tru s2 hAB sc ((LD row).1.mp hy))
  refine ⟨k1, hbd, by rw [el]; decide, ?_, Or.inr (Or.inr ⟨a1, hk, yes⟩)⟩
  refine rp_eq h hb k1 hbd (fun e1 e2 => ?_) (fun e1 e2 => ?_)
  · exact AP.2.2.2.1 _ _ (yes _ (AD.2.1 e1)) (AP.2.2.1 e2)
  · have p := AP.2.1 e2
    have p : aYs q b (aRw q b) := p
    rw [b0] at p
    obtain ⟨xs, hx⟩ := tru_pairs m6 hAB hds sc ((LP _).1.mp p)
    refine AD.2.2.2.1 xs _ ?_ (AD.2.2.1 e1)
    show aYs dq (Qb dq) xs
    rw [eb]
    exact (LD xs).1.mpr hx
theorem bc_int {A B : Nat → Nat} {v c : Nat} {sg : Int32} {z : Int} (h : A c ≠ B c) (hz : sg.toInt = z) (hn : (-sg).toInt = -z) : (bcI A B v sg c).toInt = z * ((if A c = v then 1 else 0) - (if B c = v then 1 else 0)) := by
  unfold bcI
  by_cases a : A c = v
  · rw [if_pos a, if_pos a, if_neg (fun y => h (a.trans y.symm)), hz]
    omega
  · rw [if_neg a, if_neg a]
    by_cases e : B c = v
    · rw [if_pos e, if_pos e, hn]
      omega
    · rw [if_neg e, if_neg e]
      show (0 : Int) = _
      omega
theorem bal_ok {m v i M : Nat} {A B : Nat → Nat} {d : Nat → Int32} {sg lim : Int32} {z w : Int} (hm : m ≤ 4) (hne : ∀ c, c < m → A c ≠ B c) (hd : ∀ c, c < 5 → d (5 * i + c) = balX m A B v sg lim c) (hz : sg.toInt = z) (hn : (-sg).toInt = -z) (hl : lim.toInt = w) : blR d m i A B v z w := by
  refine ⟨fun c hc => ?_, ?_⟩
  · rw [hd c (by omega)]
    unfold balX
    rw [if_neg (by omega), if_pos hc]
    exact bc_int (hne c hc) hz hn
  · rw [hd 4 (by decide)]
    exact hl
theorem nI_neg {b : Nat} (h : b < 2 ^ 20) : (-nI b).toInt = -(b : Int) := by
  rw [Int32.toInt_neg, nI_toInt (by omega)]
  exact Int.bmod_eq_of_le (by omega) (by omega)
theorem ln_row {y m b : Nat} {A B C : Nat → Nat} {d : Nat → Int32} (hm : m ≤ 4) (hne : ∀ c, c < m → A c ≠ B c) (hb : b ≤ 60) (hd : ∀ i, i < m + 2 * y + 2 → ∀ c, c < 5 → d (5 * i + c) = liN y m b A B C i c) (hC : ∀ i, i < m → C i ≤ 6) : lcP d m y (m + 2 * y + 2) A B C b := by
  have in1 : ∀ v, 1 ≤ v → v < y + 1 → blR d m (m + 2 * (v - 1)) A B v (-1) 0 ∧ blR d m (m + 2 * (v - 1) + 1) A B v 1 0 := fun v v1 v2 => by
    constructor
    · refine bal_ok (M := 0) (sg := -1) (lim := 0) hm hne (fun c hc => ?_) rfl rfl rfl
      rw [hd _ (by omega) c hc]
      unfold liN
      rw [if_neg (by omega), if_pos (by omega), show (m + 2 * (v - 1) - m) / 2 + 1 = v by omega, if_pos (by omega)]
    · refine bal_ok (M := 0) (sg := 1) (lim := 0) hm hne (fun c hc => ?_) rfl rfl rfl
      rw [hd _ (by omega) c hc]
      unfold liN
      rw [if_neg (by omega), if_pos (by omega), show (m + 2 * (v - 1) + 1 - m) / 2 + 1 = v by omega, if_neg (by omega)]
  have out1 : blR d m (m + 2 * y) A B 0 1 b := bal_ok (M := 0) (sg := 1) (lim := nI b) hm hne (fun c hc => by
    rw [hd _ (by omega) c hc]
    unfold liN
    rw [if_neg (by omega), if_neg (by omega), if_pos rfl]) rfl rfl (nI_toInt (by omega))
  have out2 : blR d m (m + 2 * y + 1) A B 0 (-1) (-(b : Int)) := bal_ok (M := 0) (sg := -1) (lim := -nI b) hm hne (fun c hc => by
    rw [hd _ (by omega) c hc]
    unfold liN
    rw [if_neg (by omega), if_neg (by omega), if_neg (by omega)]) rfl rfl (nI_neg (by omega))
  have e1 : (1 : Int) * b = b := Int.one_mul _
  have e2 : (-1 : Int) * b = -(b : Int) := by omega
  refine ⟨fun i hi => ⟨by omega, fun c hc => ?_, ?_⟩, fun i hi => ?_, fun v sg hsg => ⟨fun v1 v2 => ?_, ?_⟩⟩
  · rw [hd i (by omega) c (by omega)]
    unfold liN
    rw [if_pos hi]
    show (if c = 4 then nI (C i) else if c = i then 1 else 0 : Int32).toInt = _
    rw [if_neg (by omega)]
    split <;> rfl
  · rw [hd i (by omega) 4 (by decide)]
    unfold liN
    rw [if_pos hi]
    have := hC i hi
    exact nI_toInt (by omega)
  · by_cases z1 : i < m
    · exact Or.inl z1
    · right
      by_cases z2 : i < m + 2 * y
      · obtain ⟨g1, g2⟩ := in1 ((i - m) / 2 + 1) (by omega) (by omega)
        by_cases z3 : (i - m) % 2 = 0
        · exact ⟨(i - m) / 2 + 1, -1, Or.inr rfl, Or.inl ⟨by omega, by omega, by rw [show m + 2 * ((i - m) / 2 + 1 - 1) = i by omega] at g1; exact g1⟩⟩
        · exact ⟨(i - m) / 2 + 1, 1, Or.inl rfl, Or.inl ⟨by omega, by omega, by rw [show m + 2 * ((i - m) / 2 + 1 - 1) + 1 = i by omega] at g2; exact g2⟩⟩
      · by_cases z3 : i = m + 2 * y
        · exact ⟨0, 1, Or.inl rfl, Or.inr ⟨rfl, by rw [z3, e1]; exact out1⟩⟩
        · exact ⟨0, -1, Or.inr rfl, Or.inr ⟨rfl, by rw [show i = m + 2 * y + 1 by omega, e2]; exact out2⟩⟩
  · obtain ⟨g1, g2⟩ := in1 v v1 v2
    rcases hsg with e | e <;> rw [e]
    · exact ⟨_, by omega, g2⟩
    · exact ⟨_, by omega, g1⟩
  · rcases hsg with e | e <;> rw [e]
    · exact ⟨m + 2 * y, by omega, by rw [e1]; exact out1⟩
    · exact ⟨m + 2 * y + 1, by omega, by rw [e2]; exact out2⟩
theorem f_items {q : qT} (h : okIt q) (hk : Qk q = 1) : ∃ y, Qs q = y + 2 ∧ y ≤ 5 ∧ Qm q ≤ 10 ∧ qF (Qd q) (Qm q) y (cA (Qd q)) (cB (Qd q)) (cC (Qd q)) := by
  obtain ⟨_, s1, s2, m1, hi, hds⟩ := id h
  rw [hk] at s1 s2 hi m1
  have s1 : 2 ≤ Qs q := s1
  have s2 : Qs q ≤ 7 := s2
  have m1 : Qm q ≤ 10 := m1
  refine ⟨Qs q - 2, by omega, by omega, m1, fun i him => ?_⟩
  obtain ⟨a, e, f, x0, x1, x2, y1, y2, y3, y4⟩ := (hi i him).2.1 rfl
  have x0 : Qd q (5 * i) = nI a := x0
  have x1 : Qd q (5 * i + 1) = nI e := x1
  have x2 : Qd q (5 * i + 2) = nI f := x2
  unfold cA cB cC
  rw [x0, x1, x2, nI_clamp (by omega), nI_clamp (by omega), nI_clamp (by omega)]
  exact ⟨rfl, rfl, rfl, by omega, by omega, y3, y4⟩
theorem cr_l {q : qT} {b : Int32} {y : Nat} (h : okIt q) (hk : Qk q = 1) (hb : bndQ (Qk q) b) (hy : Qs q = y + 2) (y5 : y ≤ 5) (hq : qF (Qd q) (Qm q) y (cA (Qd q)) (cB (Qd q)) (cC (Qd q))) (m1 : 1 ≤ Qm q) (m4 : Qm q ≤ 4) (M12 : Qm q + 2 * y + 2 ≤ 12) : crsR q b (lnQ y (Qm q) b.toNatClampNeg (cA (Qd q)) (cB (Qd q)) (cC (Qd q))) := by
  have hb' := hb
  rw [hk] at hb'
  obtain ⟨b1, b2⟩ := hb'
  have b1 : 0 ≤ b.toInt := b1
  have b2 : b.toInt ≤ 60 := b2
  obtain ⟨c, ec, c1, c2⟩ := nat_b (b := b) (n := 60) (by omega) (by omega)
  obtain ⟨dq, hdq⟩ : ∃ dq, dq = lnQ y (Qm q) b.toNatClampNeg (cA (Qd q)) (cB (Qd q)) (cC (Qd q)) := ⟨_, rfl⟩
  have lc : lcP (Qd dq) (Qm q) y (Qm q + 2 * y + 2) (cA (Qd q)) (cB (Qd q)) (cC (Qd q)) b.toNatClampNeg := ln_row m4 (fun i hi => (hq i hi).2.2.2.2.2.1) (by omega) (fun i hi c hc => by rw [hdq]; exact ln_at hi hc) (fun i hi => (hq i hi).2.2.2.2.2.2)
  have k1 : okIt dq := by
    rw [hdq] at lc ⊢
    refine ⟨show 3 < 12 by decide, show 1 ≤ Qm q from m1, show Qm q ≤ 4 from m4, show Qm q + 2 * y + 2 ≤ 12 from M12, fun i hi => itK_3 ?_, fun z => absurd (show (3 : Nat) = 0 ∨ (3 : Nat) = 2 from z) (by decide)⟩
    obtain ⟨g1, g2, _⟩ := lc
    have sgb : ∀ (A B : Nat → Nat) (v c : Nat) (sg : Int), (sg = 1 ∨ sg = -1) → (sg * ((if A c = v then 1 else 0) - (if B c = v then 1 else 0))).natAbs ≤ 9 := fun A B v c sg hsg => by
      rcases hsg with e | e <;> rw [e] <;> split <;> split <;> decide
    rcases g2 i hi with z | ⟨v, sg, hsg, z⟩
    · obtain ⟨_, f2, f3⟩ := g1 i z
      refine ⟨fun j hj => ?_, ?_⟩
      · show (Qd (lnQ y (Qm q) b.toNatClampNeg (cA (Qd q)) (cB (Qd q)) (cC (Qd q))) (5 * i + j)).toInt.natAbs ≤ 9
        rw [f2 j hj]
        split <;> decide
      · show (Qd (lnQ y (Qm q) b.toNatClampNeg (cA (Qd q)) (cB (Qd q)) (cC (Qd q))) (5 * i + 4)).toInt.natAbs ≤ 60
        have := (hq i z).2.2.2.2.2.2
        rw [f3]
        omega
    · rcases z with ⟨_, _, f⟩ | ⟨_, f⟩
      · refine ⟨fun j hj => ?_, ?_⟩
        · show (Qd (lnQ y (Qm q) b.toNatClampNeg (cA (Qd q)) (cB (Qd q)) (cC (Qd q))) (5 * i + j)).toInt.natAbs ≤ 9
          rw [f.1 j hj]
          exact sgb _ _ _ _ _ hsg
        · show (Qd (lnQ y (Qm q) b.toNatClampNeg (cA (Qd q)) (cB (Qd q)) (cC (Qd q))) (5 * i + 4)).toInt.natAbs ≤ 60
          rw [f.2]
          decide
      · refine ⟨fun j hj => ?_, ?_⟩
        · show (Qd (lnQ y (Qm q) b.toNatClampNeg (cA (Qd q)) (cB (Qd q)) (cC (Qd q))) (5 * i + j)).toInt.natAbs ≤ 9
          rw [f.1 j hj]
          exact sgb _ _ _ _ _ hsg
        · show (Qd (lnQ y (Qm q) b.toNatClampNeg (cA (Qd q)) (cB (Qd q)) (cC (Qd q))) (5 * i + 4)).toInt.natAbs ≤ 60
          rw [f.2]
          rcases hsg with e | e <;> rw [e] <;> omega
  have hbd : bndQ (Qk dq) (Qb dq) := by
    rw [hdq]
    show (0 : Int) ≤ (40 : Int32).toInt ∧ (40 : Int32).toInt ≤ 40
    decide
  have AP := ansT_ok h hb
  have AD := ansT_ok k1 hbd
  have LP := AP.2.2.2.2.1.2.1 hk
  have LD := AD.2.2.2.2.1.2.2.1 (by rw [hdq]; rfl)
  have e1 : Qs dq = Qm q := by rw [hdq]; rfl
  have e2 : Qm dq = Qm q + 2 * y + 2 := by rw [hdq]; rfl
  have e3 : Qb dq = 40 := by rw [hdq]; rfl
  rw [e1, e2, e3] at LD
  rw [hy, Nat.add_sub_cancel] at LP
  rw [← hdq]
  refine ⟨k1, hbd, by rw [hdq]; exact (by decide : (-1 : Int32) < 0), ?_, Or.inr (Or.inl ⟨by rw [hdq]; rfl, hk, fun row hr h1 => ?_⟩)⟩
  · refine rp_eq h hb k1 hbd (fun a1 a2 => ?_) (fun a1 a2 => ?_)
    · have y1 := AD.2.1 a1
      rw [e3] at y1
      have n1 := AP.2.2.1 a2
      exact unf_bar lc ((LD _).1.mp y1) y5 (fun i hi => ⟨(hq i hi).2.2.2.1, (hq i hi).2.2.2.2.1⟩) ((LP _).2.mp n1)
    · have y1 := AP.2.1 a2
      have n1 := AD.2.2.1 a1
      refine AD.2.2.2.1 (1 :: aRw q b) _ ?_ n1
      show aYs dq (Qb dq) (1 :: aRw q b)
      rw [e3]
      exact (LD _).1.mpr (flow_unf lc m4 (fun i hi => (hq i hi).2.2.2.2.2.2) ((LP _).1.mp y1))
  · rw [e3] at hr
    exact (LP _).1.mpr (unf_flow lc ((LD _).1.mp hr) h1)
end
