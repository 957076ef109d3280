/-! THE PURE PART, permutations: the solver; the kept row is accepted. -/
section
/-- the items back from the number u, the last one first -/
def ptL (C A : Nat → Nat) : Nat → Nat → List Nat
  | 0, _ => []
  | k + 1, u => if u = 0 then [] else (C u - 1) :: ptL C A k (A u)
/-- the first n of the list's, from its end -/
def tkR (l : List Nat) : Nat → List Int32
  | 0 => []
  | n + 1 => tkR l n ++ [nI (l.getD (l.length - 1 - n) 0)]
theorem tkR_len {l : List Nat} : ∀ n, (tkR l n).length = n
  | 0 => rfl
  | n + 1 => by
    rw [tkR, List.length_append, tkR_len n]
    rfl
theorem tkR_at {l : List Nat} {i : Nat} : ∀ n, i < n → (tkR l n).getD i 0 = nI (l.getD (l.length - 1 - i) 0)
  | 0, h => absurd h (Nat.not_lt_zero _)
  | n + 1, h => by
    rw [tkR, getD_snoc, tkR_len]
    by_cases z : i < n
    · rw [if_pos z]
      exact tkR_at n z
    · have : i = n := by omega
      rw [if_neg z, if_pos this, this]
def apL (P : Nat → Nat → Nat) : List Nat → Nat → Nat
  | [], x => x
  | c :: l, x => P c (apL P l x)
theorem apN_cg {P : Nat → Nat → Nat} {xs ys : List Int32} {x : Nat} : ∀ n, (∀ i, i < n → xs.getD i 0 = ys.getD i 0) → apN P xs n x = apN P ys n x
  | 0, _ => rfl
  | n + 1, h => by
    rw [apN, apN, apN_cg n (fun i hi => h i (by omega))]
    unfold pX
    rw [h n (by omega)]
theorem apN_tk {P : Nat → Nat → Nat} {x : Nat} : ∀ l : List Nat, (∀ c, c ∈ l → c < 2 ^ 20) → apN P (tkR l l.length) l.length x = apL P l x
  | [], _ => rfl
  | c :: l, h => by
    have ih := apN_tk (P := P) (x := x) l (fun c hc => h c (List.mem_cons_of_mem _ hc))
    rw [List.length_cons, apN, apL]
    have e1 : pX (tkR (c :: l) (l.length + 1)) l.length = c := by
      refine pX_eq (j := c) ?_ (by have := h c List.mem_cons_self; omega)
      rw [tkR_at _ (by omega), List.length_cons, show l.length + 1 - 1 - l.length = 0 by omega]
      rfl
    rw [e1, ← ih]
    congr 1
    refine apN_cg _ (fun i hi => ?_)
    rw [tkR_at _ (by omega), tkR_at _ hi, List.length_cons, show l.length + 1 - 1 - i = l.length - 1 - i + 1 by omega]
    rfl
theorem ptL_ok {P : Nat → Nat → Nat} {s t : Nat} {p : bgT} (hs : s ≤ 6) (hP : ∀ c, 1 ≤ c → c ≤ t → isP s (P c)) (h : bgB P s t p) : ∀ k j, j < p.1.length → j ≤ k → (∀ c, c ∈ ptL p.2.1 p.2.2 k (p.1.getD j 0) → 1 ≤ c ∧ c ≤ t) ∧ (ptL p.2.1 p.2.2 k (p.1.getD j 0)).length ≤ j ∧ ∀ x, x < s → apL P (ptL p.2.1 p.2.2 k (p.1.getD j 0)) x = dcP s (p.1.getD j 0) x := by
  intro k
  induction k with
  | zero =>
    intro j hj hk
    have : j = 0 := by omega
    subst this
    rw [h.2.2.2.1.1.2.1]
    exact ⟨fun c hc => (List.not_mem_nil hc).elim, Nat.le_refl _, fun x hx => (dc_0 s (by omega) x hx).symm⟩
  | succ k ih =>
    intro j hj hk
    by_cases z : j = 0
    · subst z
      rw [h.2.2.2.1.1.2.1, ptL, if_pos rfl]
      exact ⟨fun c hc => (List.not_mem_nil hc).elim, Nat.le_refl _, fun x hx => (dc_0 s (by omega) x hx).symm⟩
    · have ne : p.1.getD j 0 ≠ 0 := fun e => h.2.2.1 0 j (by omega) hj (by rw [h.2.2.2.1.1.2.1, e])
      obtain ⟨i, i1, i2, c, c1, c2, c3, c4⟩ := h.2.2.2.1.2 j (by omega) hj
      obtain ⟨a1, a2, a3⟩ := ih i (by omega) (by omega)
      rw [ptL, if_neg ne, i2, c3, Nat.add_sub_cancel]
      refine ⟨fun d hd => ?_, ?_, fun x hx => ?_⟩
      · rcases List.mem_cons.mp hd with e | e
        · rw [e]
          exact ⟨c1, c2⟩
        · exact a1 d e
      · rw [List.length_cons]
        omega
      · rw [apL, a3 x hx, c4]
        exact ((gn_ok hs (hP c c1 c2) (h.1 i (by omega)).1).2 x hx).symm
/-- the codes of the first n numbers that are reached -/
def rwG (C : Nat → Nat) (s k : Nat) : Nat → List Int32
  | 0 => [nI k]
  | n + 1 => if C n = 0 then rwG C s k n else if (rwG C s k n).length = 1 ∨ (rwG C s k n).getD ((rwG C s k n).length - 1) 0 ≠ nI (cdN (dcP s n) k) then rwG C s k n ++ [nI (cdN (dcP s n) k)] else rwG C s k n
theorem rwG_in {C : Nat → Nat} {s k : Nat} (hs : s ≤ 6) (hk : k ≤ s) (hC : ∀ t, C t ≠ 0 → t < fac s) : ∀ n, (1 ≤ (rwG C s k n).length ∧ (rwG C s k n).length ≤ n + 1 ∧ (rwG C s k n).getD 0 0 = nI k) ∧ (∀ i, 1 ≤ i → i < (rwG C s k n).length → ∃ t, t < n ∧ C t ≠ 0 ∧ (rwG C s k n).getD i 0 = nI (cdN (dcP s t) k)) ∧ (∀ t, t < n → C t ≠ 0 → inT (rwG C s k n) (nI (cdN (dcP s t) k))) ∧ (∀ i, 1 ≤ i → i + 1 < (rwG C s k n).length → (rwG C s k n).getD i 0 < (rwG C s k n).getD (i + 1) 0) := by
  have cb : ∀ t, C t ≠ 0 → cdN (dcP s t) k < 2 ^ 16 := fun t ht => cdN_b (by omega) (fun j hj => by have := (dc_P hs (hC t ht)).1 j (by omega); omega)
  intro n
  induction n with
  | zero => exact ⟨⟨Nat.le_refl _, Nat.le_refl _, rfl⟩, fun i h1 h2 => absurd (show i < 1 from h2) (by omega), fun t h => absurd h (Nat.not_lt_zero _), fun i h1 h2 => absurd (show i + 1 < 1 from h2) (by omega)⟩
  | succ n ih =>
    obtain ⟨⟨l1, l2, l3⟩, a, b, r⟩ := ih
    rw [rwG]
    by_cases c : C n = 0
    · rw [if_pos c]
      refine ⟨⟨l1, by omega, l3⟩, fun i h1 h2 => ?_, fun t ht hc => ?_, r⟩
      · obtain ⟨t, t1, t2⟩ := a i h1 h2
        exact ⟨t, by omega, t2⟩
      · by_cases z : t = n
        · rw [z] at hc
          exact absurd c hc
        · exact b t (by omega) hc
    · rw [if_neg c]
      generalize rwG C s k n = xs at *
      by_cases y : xs.length = 1 ∨ xs.getD (xs.length - 1) 0 ≠ nI (cdN (dcP s n) k)
      · rw [if_pos y]
        have ln : (xs ++ [nI (cdN (dcP s n) k)]).length = xs.length + 1 := by rw [List.length_append]; rfl
        have at1 : ∀ i, i < xs.length → (xs ++ [nI (cdN (dcP s n) k)]).getD i 0 = xs.getD i 0 := fun i hi => by rw [getD_snoc, if_pos hi]
        have at2 : (xs ++ [nI (cdN (dcP s n) k)]).getD xs.length 0 = nI (cdN (dcP s n) k) := by rw [getD_snoc, if_neg (Nat.lt_irrefl _), if_pos rfl]
        refine ⟨⟨by omega, by omega, by rw [at1 0 (by omega)]; exact l3⟩, fun i h1 h2 => ?_, fun t ht hc => ?_, fun i h1 h2 => ?_⟩
        · by_cases z : i < xs.length
          · rw [at1 i z]
            obtain ⟨t, t1, t2⟩ := a i h1 z
            exact ⟨t, by omega, t2⟩
          · have : i = xs.length := by omega
            rw [this, at2]
            exact ⟨n, by omega, c, rfl⟩
        · by_cases z : t = n
          · rw [z]
            exact ⟨xs.length, by omega, by omega, at2⟩
          · obtain ⟨i, i1, i2, i3⟩ := b t (by omega) hc
            exact ⟨i, i1, by omega, by rw [at1 i i2]; exact i3⟩
        · by_cases z : i + 1 < xs.length
          · rw [at1 i (by omega), at1 (i + 1) z]
            exact r i h1 z
          · have : i + 1 = xs.length := by omega
            rw [this, at2, at1 i (by omega)]
            have y := y.resolve_left (by omega)
            rw [show xs.length - 1 = i by omega] at y
            obtain ⟨t, t1, t2, t3⟩ := a i h1 (by omega)
            rw [t3] at y ⊢
            have m := cd_mono hs hk (n - t) t (by have := hC n c; omega)
            rw [show t + (n - t) = n by omega] at m
            have b1 := cb t t2
            have b2 := cb n c
            refine (nI_ltI (by omega) (by omega)).mpr ?_
            have : cdN (dcP s t) k ≠ cdN (dcP s n) k := fun e => y (by rw [e])
            omega
      · rw [if_neg y]
        refine ⟨⟨l1, by omega, l3⟩, fun i h1 h2 => ?_, fun t ht hc => ?_, r⟩
        · obtain ⟨t, t1, t2⟩ := a i h1 h2
          exact ⟨t, by omega, t2⟩
        · by_cases z : t = n
          · rw [z]
            have y1 : xs.length ≠ 1 := fun w => y (Or.inl w)
            exact ⟨xs.length - 1, by omega, by omega, Decidable.not_not.mp (fun w => y (Or.inr w))⟩
          · exact b t (by omega) hc
/-- how many points tell the goal apart -/
noncomputable def stK (C G : Nat → Nat) (s : Nat) : Nat → Nat → Nat
  | 0, k => k
  | f + 1, k => @ite Nat (inT (rwG C s k 720) (nI (cdN G k))) (Classical.propDecidable _) (stK C G s f (k + 1)) k
theorem no_all {P : Nat → Nat → Nat} {G : Nat → Nat} {s t : Nat} {p : bgT} (hs : s ≤ 6) (h : bgB P s t p) (hG : isP s G) (hn : p.2.1 (rk s G) = 0) : ¬ inT (rwG p.2.1 s s 720) (nI (cdN G s)) := by
  have hC : ∀ x, p.2.1 x ≠ 0 → x < fac s := fun x hx => by
    obtain ⟨i, i1, i2⟩ := h.2.1 x hx
    rw [← i2]
    exact (h.1 i i1).1
  rintro ⟨i, i1, i2, i3⟩
  obtain ⟨_, a, _, _⟩ := rwG_in hs (Nat.le_refl s) hC 720
  obtain ⟨x, _, x1, x2⟩ := a i i1 i2
  have d := dc_P hs (hC x x1)
  have c1 := cdN_b hs (p := dcP s x) (k := s) (fun j hj => by have := d.1 j hj; omega)
  have c2 := cdN_b hs (p := G) (k := s) (fun j hj => by have := hG.1 j hj; omega)
  have e := (nI_eq (by omega) (by omega)).mp (x2.symm.trans i3)
  have e2 := cdN_inj s (fun j hj => by have := d.1 j hj; omega) (fun j hj => by have := hG.1 j hj; omega) e
  have e3 := rk_cg (s := s) e2
  rw [(dc_ok s (by omega) x (hC x x1)).2.2] at e3
  rw [e3] at x1
  exact x1 hn
theorem stK_ok {P : Nat → Nat → Nat} {G : Nat → Nat} {s t : Nat} {p : bgT} (hs : s ≤ 6) (h : bgB P s t p) (hG : isP s G) (hn : p.2.1 (rk s G) = 0) : ∀ f k, k + f = s → k ≤ stK p.2.1 G s f k ∧ stK p.2.1 G s f k ≤ s ∧ ¬ inT (rwG p.2.1 s (stK p.2.1 G s f k) 720) (nI (cdN G (stK p.2.1 G s f k)))
  | 0, k, e => by
    have : k = s := by omega
    subst this
    exact ⟨Nat.le_refl _, Nat.le_refl _, no_all hs h hG hn⟩
  | f + 1, k, e => by
    rw [stK]
    by_cases z : inT (rwG p.2.1 s k 720) (nI (cdN G k))
    · rw [if_pos z]
      obtain ⟨a, b, c⟩ := stK_ok hs h hG hn f (k + 1) (by omega)
      exact ⟨by omega, b, c⟩
    · rw [if_neg z]
      exact ⟨Nat.le_refl _, by omega, z⟩
abbrev yesG (P : Nat → Nat → Nat) (G : Nat → Nat) (s t : Nat) : Prop := (bgA P s t).2.1 (rk s G) ≠ 0
def pthG (P : Nat → Nat → Nat) (G : Nat → Nat) (s t : Nat) : List Nat := ptL (bgA P s t).2.1 (bgA P s t).2.2 720 (rk s G)
noncomputable def rowG (P : Nat → Nat → Nat) (G : Nat → Nat) (s t : Nat) : List Int32 := if (bgA P s t).2.1 (rk s G) ≠ 0 then tkR (pthG P G s t) (pthG P G s t).length else rwG (bgA P s t).2.1 s (stK (bgA P s t).2.1 G s (s - 1) 1) 720
theorem pthG_ok {P : Nat → Nat → Nat} {G : Nat → Nat} {s t : Nat} (hs : s ≤ 6) (hG : isP s G) (hP : ∀ c, 1 ≤ c → c ≤ t → isP s (P c)) (h : yesG P G s t) : (∀ c, c ∈ pthG P G s t → 1 ≤ c ∧ c ≤ t) ∧ (pthG P G s t).length ≤ 720 ∧ ∀ x, x < s → apL P (pthG P G s t) x = G x := by
  obtain ⟨hB, _⟩ := bgA_ok hs hP
  obtain ⟨j, j1, j2⟩ := hB.2.1 _ h
  have le := bgB_le hB
  have fb := (fac_b s (by omega)).1
  obtain ⟨a, b, c⟩ := ptL_ok hs hP hB 720 j j1 (by omega)
  rw [j2] at a b c
  exact ⟨a, by show (ptL _ _ _ _).length ≤ 720; omega, fun x hx => by rw [show apL P (pthG P G s t) x = _ from c x hx]; exact (rk_ok hs hG).2 x hx⟩
theorem rowG_yes {P : Nat → Nat → Nat} {G : Nat → Nat} {s lu : Nat} (hs : s ≤ 6) (hlu : lu ≤ 5) (hG : isP s G) (hP : ∀ c, c < lu → isP s (P c)) (h : yesG P G s (lu - 1)) : wordOK P G s lu (rowG P G s (lu - 1)) := by
  unfold rowG
  rw [if_pos h]
  have hP' : ∀ c, 1 ≤ c → c ≤ lu - 1 → isP s (P c) := fun c h1 h2 => hP c (by omega)
  obtain ⟨a, b, c⟩ := pthG_ok hs hG hP' h
  generalize pthG P G s (lu - 1) = l at *
  refine ⟨fun i hi => ?_, fun x hx => ?_⟩
  · rw [tkR_len] at hi
    rw [tkR_at _ hi]
    obtain ⟨h1, h2⟩ := a _ (getD_mem (show l.length - 1 - i < l.length by omega))
    exact ⟨_, h1, by omega, rfl⟩
  · rw [tkR_len, apN_tk l (fun c hc => by have := (a c hc).2; omega)]
    exact c x hx
theorem rowG_no {P : Nat → Nat → Nat} {G : Nat → Nat} {s lu : Nat} (h0 : 0 < s) (hs : s ≤ 6) (hG : isP s G) (hP : ∀ c, c < lu → isP s (P c)) (h : ¬ yesG P G s (lu - 1)) : rowsOK P G s lu (rowG P G s (lu - 1)) := by
  unfold rowG
  rw [if_neg h]
  have hP' : ∀ c, 1 ≤ c → c ≤ lu - 1 → isP s (P c) := fun c h1 h2 => hP c (by omega)
  obtain ⟨hB, cl⟩ := bgA_ok hs hP'
  have fb := (fac_b s (by omega)).1
  have h := Decidable.not_not.mp h
  obtain ⟨k1, k2, k3⟩ := stK_ok hs hB hG h (s - 1) 1 (by omega)
  have hC : ∀ x, (bgA P s (lu - 1)).2.1 x ≠ 0 → x < fac s := fun x hx => by
    obtain ⟨i, i1, i2⟩ := hB.2.1 x hx
    rw [← i2]
    exact (hB.1 i i1).1
  have c0 : (bgA P s (lu - 1)).2.1 0 ≠ 0 := by
    rw [hB.2.2.2.1.1.2.2]
    decide
  generalize stK (bgA P s (lu - 1)).2.1 G s (s - 1) 1 = k at *
  obtain ⟨⟨l1, l2, l3⟩, a, b, r⟩ := rwG_in (k := k) hs k2 hC 720
  refine ⟨by omega, k, k1, k2, l3, r, fun i h1 h2 => ?_, ?_, fun i h1 h2 p c hp hx hc1 hc2 => ?_, k3⟩
  · obtain ⟨t, t1, t2, t3⟩ := a i h1 h2
    have d := dc_P hs (hC t t2)
    exact ⟨dcP s t, ⟨fun j hj => d.1 j (by omega), fun i j hij hj => d.2 i j hij (by omega)⟩, t3⟩
  · have := b 0 (by omega) c0
    rw [cdN_cg k (fun j hj => dc_0 s (by omega) j (by omega))] at this
    exact this
  · obtain ⟨t, t1, t2, t3⟩ := a i h1 h2
    have ft := hC t t2
    have d := dc_P hs ft
    have b1 := cdN_b (p := dcP s t) (k := k) (by omega) (fun j hj => by have := d.1 j (by omega); omega)
    have b2 := cdN_b (p := p) (k := k) (by omega) (fun j hj => by have := hp.1 j hj; omega)
    have e := (nI_eq (by omega) (by omega)).mp (t3.symm.trans hx)
    have e2 := cdN_inj k (fun j hj => by have := d.1 j (by omega); omega) (fun j hj => by have := hp.1 j hj; omega) e
    have g := gn_ok hs (hP c hc2) ft
    have := b _ (by omega) (cl t c t2 hc1 (by omega))
    rw [cdN_cg k (fun j hj => by rw [g.2 j (by omega), e2 j hj])] at this
    exact this
end
