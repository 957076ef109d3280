/-! THE PURE PART, clauses: the judge of truths; weak duality; the solver. -/
section
theorem trB_bit {xs : List Int32} {s : Nat} (h : ∀ i, i < s → pX xs i < 2) : ∀ j, j ≤ s → trB xs j < 2 ^ j
  | 0, _ => by
    rw [trB]
    exact Nat.two_pow_pos 0
  | j + 1, hj => by
    have ih := trB_bit h j (by omega)
    have p2 : (2 : Nat) ^ (j + 1) = 2 ^ j * 2 := Nat.pow_succ 2 j
    have hx := h j (by omega)
    rw [trB]
    refine nb_or_lt (by omega) ?_
    have : pX xs j * 2 ^ j ≤ 1 * 2 ^ j := Nat.mul_le_mul_right _ (by omega)
    have := Nat.two_pow_pos j
    omega
theorem T_judgeTruths {F e r s m b : Nat} {Ln : Nat → Nat} {d : Nat → Int32} {xs : List Int32} {V : mV} (hF : 2 ^ 12 ≤ F) (he : 256 ≤ e) (hr : 256 ≤ r) (hs : s ≤ 6) (h0 : 0 < s) (hm : m ≤ 12) (hb : b < 2 ^ 20) (hd : qS d m s) (hq : enQ V e s m (nI b) d) (hR : rowIs Ln V r xs) : mTo (mX1_judgeTruths F Ln e r V) (fun p => p.1 = 0 ↔ truOK d m s b xs) := by
  have n10 := hR.n
  have no : ∀ {P : Prop}, (1 : Int32) = 0 → P := fun z => absurd z (by decide)
  have go : ∀ k' j (V : mV), s < j + k' → j ≤ s → xs.length = s → inRow xs 2 → V.fI 5 4 = nI s → V.fI 5 5 = nI (trB xs j) → enQ V e s m (nI b) d → rowIs Ln V r xs → mTo (mX1_judgeTruths_go F k' 0 Ln e r (nI j) V) (fun p => p.1 = 0 ↔ truOK d m s b xs) := by
    intro k'
    induction k' with
    | zero => intro j V h1 h2; omega
    | succ k ih =>
      intro j V h1 h2 hl hi h4 h5 hq hR
      have px : ∀ i, i < s → pX xs i < 2 := fun i hi' => (hi.p (by omega) (by omega)).1
      have tl := trB_bit px j h2
      have t6 : trB xs j < 2 ^ 6 := Nat.lt_of_lt_of_le tl (Nat.pow_le_pow_right (by decide) (by omega))
      rw [mX1_judgeTruths_go, if_pos rfl]
      unfold mX1_judgeTruths_b0
      refine mTo.le h4 rfl (by omega) (by omega) (fun h => ?_) (fun h => mTo.so (T_rAt hR (by omega)) (mTo.lt (mTo.lt ?_)))
      · have : j = s := by omega
        subst this
        have pn : pop (trB xs j) ≤ 11 := cnt_n 11
        refine mTo.so (by rw [h5]; exact T_pop (by omega)) (mTo.le rfl hq.2.2.1 (by omega) (by omega) (fun z => mTo.N (T_brokenItem (by omega) hs hm hd hq h4 h5 hs t6) (fun v _ hv => ?_)) (fun z => mTo.ret ⟨fun y => absurd (show (2 : Int32) = 0 from y) (by decide), fun y => absurd y.2.1 (by omega)⟩))
        subst hv
        rcases biN_spec (d := d) (D := j) (ones := trB xs j) m 0 with ⟨a, c⟩ | ⟨a, c, g⟩
        · rw [a, if_neg (by decide)]
          exact mTo.ret ⟨fun _ => ⟨⟨hl, hi⟩, z, fun i hi' => c i (Nat.zero_le _) (by omega)⟩, fun _ => rfl⟩
        · rw [if_pos ((nI_m1_neg (by omega)).mpr (by omega))]
          refine mTo.ret ⟨fun y => absurd (show (3 : Int32) = 0 from y) (by decide), fun y => ?_⟩
          have := y.2.2 _ (show biN d j (trB xs j) m 0 - 1 < m by omega)
          rw [g] at this
          exact absurd this (by decide)
      · obtain ⟨p1, p2⟩ := hi.p (by omega) (show j < xs.length by omega)
        have l2 : pX xs j * 2 ^ j < 2 ^ 32 := by
          have : pX xs j * 2 ^ j ≤ 1 * 2 ^ j := Nat.mul_le_mul_right _ (by omega)
          have : (2 : Nat) ^ j ≤ 2 ^ 6 := Nat.pow_le_pow_right (by decide) (by omega)
          omega
        rw [p2, nb_shl (by omega) l2, h5, nb_or, nI_1]
        refine ih (j + 1) _ (by omega) (by omega) hl hi (by rw [mF_no (Or.inr (by decide))]; exact h4) mF_at ⟨by rw [mF_no (Or.inl (by omega))]; exact hq.1, by rw [mF_no (Or.inl (by omega))]; exact hq.2.1, by rw [mF_no (Or.inl (by omega))]; exact hq.2.2.1, hq.2.2.2⟩ ⟨by rw [mF_no (Or.inl (by omega))]; exact hR.1, hR.2.1, hR.2.2.1, hR.2.2.2⟩
  unfold mX1_judgeTruths mX1_judgeTruths_s
  refine mTo.eqI hR.1 hq.1 (by omega) (by omega) (fun hl => ?_) (fun hl => mTo.ret ⟨fun z => no z, fun z => absurd z.1.1 hl⟩)
  refine mTo.N (T_rWithin (j := 0) (by omega) hR (by omega)) (fun v _ q => mTo.tf q (fun hc => mTo.ret ⟨fun z => no z, fun z => absurd ((inRow_iff (s := 2) (by omega) (by omega)).mp z.1.2) (fun y => hc y)⟩) (fun hc => mTo.lt (mTo.lt ?_)))
  have hi : inRow xs 2 := (inRow_iff (s := 2) (by omega) (by omega)).mpr hc
  exact go F 0 _ (by omega) (Nat.zero_le _) hl hi (by rw [mF_no (Or.inr (by decide)), mF_at]; exact hq.1) mF_at ⟨by rw [mF_no (Or.inl (by omega)), mF_no (Or.inl (by omega))]; exact hq.1, by rw [mF_no (Or.inl (by omega)), mF_no (Or.inl (by omega))]; exact hq.2.1, by rw [mF_no (Or.inl (by omega)), mF_no (Or.inl (by omega))]; exact hq.2.2.1, hq.2.2.2⟩ ⟨by rw [mF_no (Or.inl (by omega)), mF_no (Or.inl (by omega))]; exact hR.1, hR.2.1, hR.2.2.1, hR.2.2.2⟩
/-- the truths at the leaf x fulfil all -/
def okX (d : Nat → Int32) (m s b x : Nat) : Prop := pop (on x) ≤ b ∧ ∀ i, i < m → bk d s (on x) i = false
theorem ab_v {d : Nat → Int32} {m s i k : Nat} (hs : s ≤ 6) (hd : qS d m s) (hi : i < m) (hk : k < 3) (h0 : d (5 * i + k) ≠ 0) : 0 < ((if 0 ≤ d (5 * i + k) then d (5 * i + k) else 0 - d (5 * i + k))).toNatClampNeg := by
  obtain ⟨a, a6, ha⟩ := hd i k hi hk
  obtain ⟨p1, p2, p3⟩ := ab_p a (by omega)
  have a0 : a ≠ 0 := fun z => h0 (by
    rcases ha with y | y
    · rw [y, z]
      rfl
    · rw [y, z]
      decide)
  rcases ha with z | z
  · rw [z, p1, nI_clamp (by omega)]
    omega
  · rw [z, p2, nI_clamp (by omega)]
    omega
theorem bk_up {d : Nat → Int32} {m s D D' o o' i : Nat} (hs : s ≤ 6) (hd : qS d m s) (hi : i < m) (hD : D ≤ D') (h : ∀ j, j < D → o'.testBit j = o.testBit j) (hb : bk d D o i = true) : bk d D' o' i = true := by
  unfold bk at hb ⊢
  rw [Bool.and_eq_true, Bool.and_eq_true] at hb ⊢
  have one : ∀ k, k < 3 → bkI d D o i k = true → bkI d D' o' i k = true := fun k h3 hk => by
    unfold bkI at hk ⊢
    rw [Bool.or_eq_true, decide_eq_true_eq] at hk ⊢
    by_cases z : d (5 * i + k) = 0
    · exact Or.inl z
    · right
      have hk := hk.resolve_left z
      have pos := ab_v hs hd hi h3 z
      rw [Bool.and_eq_true, decide_eq_true_eq] at hk ⊢
      exact ⟨by omega, by rw [h _ (by omega)]; exact hk.2⟩
  exact ⟨⟨one 0 (by omega) hb.1.1, one 1 (by omega) hb.1.2⟩, one 2 (by omega) hb.2⟩
/-- below a leaf nothing is fulfilled -/
theorem leaf_bad {d : Nat → Int32} {m s b n x t : Nat} {v : Int32} (hs : s ≤ 6) (hd : qS d m s) (hx : x < 128) (ht : t < 7) (hn : n = x / 2 ^ t) (h0 : 0 < n) (hxs : dp x = s) (hv : v = -1 ∨ ∃ j, j < m ∧ v = nI j) (hm : m ≤ 12) (h : lfOK d b n v = true) : ¬ okX d m s b x := by
  obtain ⟨u1, u2, u3⟩ := nd_up x hx t ht (by rw [← hn]; exact h0)
  rw [← hn] at u1 u2 u3
  rintro ⟨k1, k2⟩
  unfold lfOK at h
  rcases hv with z | ⟨j, j1, z⟩
  · rw [z, if_pos (by decide), decide_eq_true_eq] at h
    omega
  · rw [z, if_neg (nI_pos (by omega)), nI_clamp (by omega)] at h
    have := bk_up hs hd j1 (show dp n ≤ s by omega) u3 h
    rw [k2 j j1] at this
    exact absurd this (by decide)
theorem run_bad {d : Nat → Int32} {m s b : Nat} {xs : List Int32} (hs : s ≤ 6) (hm : m ≤ 12) (hd : qS d m s) (hM : rowM1 m xs) : ∀ k pl n, trRun d s b xs k pl n = 0 → 0 < n → n < 2 ^ (s + 1) → ∀ x, 2 ^ s ≤ x → x < 2 ^ (s + 1) → n * 2 ^ (s - dp n) ≤ x → ¬ okX d m s b x := by
  have p6 : (2 : Nat) ^ (s + 1) ≤ 2 ^ 7 := Nat.pow_le_pow_right (by decide) (by omega)
  have dps : ∀ n, 0 < n → n < 2 ^ (s + 1) → dp n ≤ s := fun n h0 h => by
    obtain ⟨l1, l2, l3, l4⟩ := nd_lt n (by omega) h0
    rcases Nat.lt_or_ge s (dp n) with z | z
    · have : (2 : Nat) ^ (s + 1) ≤ 2 ^ dp n := Nat.pow_le_pow_right (by decide) z
      omega
    · exact z
  intro k
  induction k with
  | zero => intro pl n h; rw [trRun] at h; exact absurd h (by decide)
  | succ k ih =>
    intro pl n h h0 h2 x x1 x2 x3
    have dn := dps n h0 h2
    rw [trRun, if_neg (by omega)] at h
    by_cases lf : pl < xs.length ∧ lfOK d b n (xs.getD pl 0) = true
    · rw [if_pos lf] at h
      have pe : (n + 1) * 2 ^ (s - dp n) = n * 2 ^ (s - dp n) + 2 ^ (s - dp n) := Nat.succ_mul _ _
      rcases Nat.lt_or_ge x ((n + 1) * 2 ^ (s - dp n)) with z | z
      · have e : n = x / 2 ^ (s - dp n) := by
          refine (Nat.div_eq_of_lt_le ?_ ?_).symm
          · exact x3
          · exact z
        have dx : dp x = s := by
          obtain ⟨l1, l2, l3, l4⟩ := nd_lt x (by omega) (by omega)
          have := dps x (by omega) x2
          rcases Nat.lt_or_ge (dp x) s with y | y
          · have : (2 : Nat) ^ (dp x + 1) ≤ 2 ^ s := Nat.pow_le_pow_right (by decide) y
            omega
          · omega
        exact leaf_bad hs hd (by omega) (show s - dp n < 7 by omega) e h0 dx (hM pl lf.1) hm lf.2
      · rcases nd_nx n (by omega) h0 with ⟨c1, c2⟩ | ⟨c1, c2, c3, c4⟩
        · rw [c2, ← Nat.pow_add, show dp n + 1 + (s - dp n) = s + 1 by omega] at z
          omega
        · have ps : nx8 n * 2 ^ (s - dp (nx8 n)) = (n + 1) * 2 ^ (s - dp n) := by
            rw [← c4, Nat.mul_assoc, ← Nat.pow_add, show dp n - dp (nx8 n) + (s - dp n) = s - dp (nx8 n) by omega]
          refine ih (pl + 1) (nx8 n) h c1 ?_ x x1 x2 (by rw [ps]; exact z)
          have := (nd_lt (nx8 n) c2 c1).2.2.2
          have : (2 : Nat) ^ (dp (nx8 n) + 1) ≤ 2 ^ (s + 1) := Nat.pow_le_pow_right (by decide) (by omega)
          omega
    · rw [if_neg lf] at h
      by_cases ds : dp n < s
      · rw [if_pos ds] at h
        have s2 : (2 : Nat) ^ (dp n + 1) ≤ 2 ^ s := Nat.pow_le_pow_right (by decide) ds
        have ps : (2 : Nat) ^ (s + 1) = 2 * 2 ^ s := by rw [Nat.pow_succ, Nat.mul_comm]
        have l4 := (nd_lt n (by omega) h0).2.2.2
        obtain ⟨u1, u2⟩ := nd_dn n (by omega) h0
        refine ih pl (2 * n) h (by omega) (by omega) x x1 x2 ?_
        have : 2 * n * 2 ^ (s - dp (2 * n)) = n * 2 ^ (s - dp n) := by
          rw [u1, show s - dp n = s - (dp n + 1) + 1 by omega, Nat.pow_succ, Nat.mul_comm 2 n, Nat.mul_assoc]
          congr 1
          exact Nat.mul_comm _ _
        rw [this]
        exact x3
      · rw [if_neg ds] at h
        exact absurd h (by decide)
theorem tru_tree {d : Nat → Int32} {m s b : Nat} {xs ys : List Int32} (hs : s ≤ 6) (h0 : 0 < s) (hm : m ≤ 12) (hd : qS d m s) (h1 : truOK d m s b xs) (h2 : treeOK d m s b ys) : False := by
  obtain ⟨⟨a1, a2⟩, a3, a4⟩ := h1
  have tl := trB_bit (fun i hi => (a2.p (by omega) (show i < xs.length by omega)).1) s (Nat.le_refl _)
  obtain ⟨r1, r2, r3, r4⟩ := nd_rv s (by omega) (trB xs s) tl
  have p2 := Nat.two_pow_pos s
  have ps : (2 : Nat) ^ (s + 1) = 2 * 2 ^ s := by rw [Nat.pow_succ, Nat.mul_comm]
  refine run_bad hs hm hd h2.1 129 0 1 h2.2 (by omega) (by omega) (2 ^ s + on (2 ^ s + trB xs s)) (by omega) (by omega) ?_ ?_
  · rw [show dp 1 = 0 from rfl, Nat.sub_zero, Nat.one_mul]
    omega
  · unfold okX
    rw [r2]
    exact ⟨a3, a4⟩
end
