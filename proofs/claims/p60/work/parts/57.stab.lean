/-! THE PURE PART, pairings: nodes left out one by one; odd parts are as many as are alone. -/
section
theorem cnt_split {X Y : Nat → Bool} : ∀ n, cnt X n = cnt (fun i => X i && Y i) n + cnt (fun i => X i && !Y i) n
  | 0 => rfl
  | n + 1 => by
    have := cnt_split (X := X) (Y := Y) n
    unfold cnt
    cases X n <;> cases Y n <;> simp <;> omega
theorem alo_par {ad : Nat → Nat → Bool} {X : Nat → Bool} {n : Nat} {p : Nat → Nat} (hX : ∀ i, X i = true → i < n) (h : Mt ad X p) : alo X p n % 2 = cnt X n % 2 := by
  have h1 := cnt_split (X := X) (Y := fun i => decide (p i = i)) n
  have h2 := cnt_even (p := p) (n := n) n (fun i => X i && !decide (p i = i)) (cnt_n n) (fun i hi hx => by
    have hx : (X i && !decide (p i = i)) = true := hx
    rw [Bool.and_eq_true, Bool.not_eq_true', decide_eq_false_iff_not] at hx
    have x2 := h.X hx.2
    refine ⟨hX _ x2, ?_, hx.2, (h i).1⟩
    show (X (p i) && !decide (p (p i) = p i)) = true
    rw [x2, (h i).1, decide_eq_false (fun e => hx.2 e.symm)]
    rfl)
  unfold alo
  omega
theorem Mt.out {ad : Nat → Nat → Bool} {X : Nat → Bool} {p : Nat → Nat} {i : Nat} (h : Mt ad X p) (hx : X i = false) : p i = i := by
  rcases Nat.decEq (p i) i with ne | e
  · have := ((h i).2 ne).1
    rw [hx] at this
    exact absurd this (by decide)
  · exact e
theorem Mt.up {ad : Nat → Nat → Bool} {X Y : Nat → Bool} {p : Nat → Nat} (h : Mt ad X p) (hx : ∀ i, X i = true → Y i = true) : Mt ad Y p := fun i => ⟨(h i).1, fun e => ⟨hx i ((h i).2 e).1, ((h i).2 e).2⟩⟩
theorem Mt.down {ad : Nat → Nat → Bool} {X : Nat → Bool} {p : Nat → Nat} {a : Nat} (h : Mt ad X p) (pa : p a = a) : Mt ad (cdel X a) p := fun i => ⟨(h i).1, fun e => ⟨cdel_eq.mpr ⟨((h i).2 e).1, fun z => by subst z; exact e pa⟩, ((h i).2 e).2⟩⟩
theorem alo_del {X : Nat → Bool} {n a : Nat} {p : Nat → Nat} (xa : X a = true) (an : a < n) (pa : p a = a) : alo X p n = alo (cdel X a) p n + 1 := by
  unfold alo
  rw [cnt_del (X := fun i => X i && decide (p i = i)) (i := a) (by show (X a && decide (p a = a)) = true; rw [xa, decide_eq_true pa]; rfl) n an]
  congr 1
  refine cnt_eq n (fun i _ => ?_)
  show (X i && decide (p i = i) && !decide (i = a)) = (X i && !decide (i = a) && decide (p i = i))
  cases X i <;> cases decide (p i = i) <;> cases decide (i = a) <;> rfl
theorem dn_del {ad : Nat → Nat → Bool} {X : Nat → Bool} {n a : Nat} {M : Nat → Nat} (hX : ∀ i, X i = true → i < n) (xa : X a = true) (nd : ¬ Dn ad X n a) (hM : Mx ad X n M) : Mx ad (cdel X a) n (ctp M a) ∧ alo (cdel X a) (ctp M a) n = alo X M n + 1 := by
  have ma : M a ≠ a := fun e => nd ⟨M, hM, xa, e⟩
  have ca : ctp M a a = a := by unfold ctp; rw [if_pos (Or.inl rfl)]
  have e1 := alo_ctp hX hM.1 ma
  have e2 := alo_del xa (hX _ xa) ca
  refine ⟨⟨(hM.1.ct).down ca, fun q hq => ?_⟩, by omega⟩
  have qa : q a = a := hq.out (by unfold cdel; rw [decide_eq_true rfl, Bool.not_true, Bool.and_false])
  have hq2 : Mt ad X q := hq.up (fun i hi => (cdel_eq.mp hi).1)
  have e3 := alo_del xa (hX _ xa) qa
  have p1 := alo_par hX hq2
  have p2 := alo_par hX hM.1
  have g := hM.2 q hq2
  have ne : alo X q n ≠ alo X M n := fun e => nd ⟨q, hM.of hq2 (by omega), xa, qa⟩
  omega
theorem stab {ad : Nat → Nat → Bool} {X : Nat → Bool} {n a d v : Nat} (hX : ∀ i, X i = true → i < n) (hs : ∀ i j, ad i j = true → ad j i = true) (xa : X a = true) (nd : ¬ Dn ad X n a) (hd : Dn ad X n d) (hda : ad a d = true) : Dn ad (cdel X a) n v ↔ Dn ad X n v := by
  obtain ⟨M, hM, xd, md⟩ := hd
  obtain ⟨m1, m2⟩ := dn_del hX xa nd hM
  have ma : M a ≠ a := fun e => nd ⟨M, hM, xa, e⟩
  have hX' : ∀ i, cdel X a i = true → i < n := fun i hi => hX i (cdel_eq.mp hi).1
  have da : d ≠ a := fun e => nd ⟨M, hM, xa, by rw [← e]; exact md⟩
  have dm : d ≠ M a := fun e => da (by rw [← (hM.1 a).1, ← e, md])
  constructor
  · rintro ⟨N, hN, xv, nv⟩
    obtain ⟨xv1, va⟩ := cdel_eq.mp xv
    rcases Classical.em (Dn ad X n v) with h | h
    · exact h
    · exfalso
      have key : ∀ w, ad a w = true → Nb ad (cdel X a) n v w := fun w hw p hp _ xw pv pw => by
        rcases Nat.decEq v w with ne | e
        · obtain ⟨xw1, wa⟩ := cdel_eq.mp xw
          have pa : p a = a := hp.1.out (by unfold cdel; rw [decide_eq_true rfl, Bool.not_true, Bool.and_false])
          have hp2 : Mt ad X p := hp.1.up (fun i hi => (cdel_eq.mp hi).1)
          have aw : a ≠ w := fun e => wa e.symm
          have h1 := hp2.sw aw pa pw xa xw1 hw (hs _ _ hw)
          have e1 := alo_swp aw pa pw xa xw1 (hX _ xa) (hX _ xw1)
          have e2 := alo_del xa (hX _ xa) pa
          have e3 := hp.eq m1
          refine absurd ⟨swp p a w, hM.of h1 (by omega), xv1, ?_⟩ h
          unfold swp
          rw [if_neg va, if_neg ne, pv]
        · exact e
      have cd : ctp M a d = d := by unfold ctp; rw [if_neg (fun z => z.elim da dm), md]
      have cm : ctp M a (M a) = M a := by unfold ctp; rw [if_pos (Or.inr rfl)]
      exact dm ((Nb.tr hX' hs ⟨N, hN, xv, nv⟩ (key d hda).sy (key (M a) ((hM.1 a).2 ma).2)) _ m1 (cdel_eq.mpr ⟨xd, da⟩) (cdel_eq.mpr ⟨hM.1.X ma, ma⟩) cd cm)
  · rintro ⟨p, hp, xv, pv⟩
    have va : v ≠ a := fun e => nd ⟨p, hp, xa, by rw [← e]; exact pv⟩
    have pa : p a ≠ a := fun e => nd ⟨p, hp, xa, e⟩
    refine ⟨ctp p a, (dn_del hX xa nd hp).1, cdel_eq.mpr ⟨xv, va⟩, ?_⟩
    unfold ctp
    rw [if_neg (fun z => z.elim va (fun e => va (by rw [← (hp.1 a).1, ← e, pv])))]
    exact pv
/-- the nodes of the row are left out one by one -/
theorem lft_stab {ad : Nat → Nat → Bool} {s : Nat} {xs : List Int32} {M : Nat → Nat} (hs : ∀ i j, ad i j = true → ad j i = true) (hM : Mx ad (fun i => (2 ^ s - 1).testBit i) s M) (hd : ∀ i j, i < j → j < xs.length → pX xs i ≠ pX xs j) (hA : ∀ l, l < xs.length → pX xs l < s ∧ ¬ Dn ad (fun i => (2 ^ s - 1).testBit i) s (pX xs l) ∧ ∃ d, Dn ad (fun i => (2 ^ s - 1).testBit i) s d ∧ ad (pX xs l) d = true) : ∀ j, j ≤ xs.length → (∀ v, Dn ad (fun i => (lftN s xs j).testBit i) s v ↔ Dn ad (fun i => (2 ^ s - 1).testBit i) s v) ∧ ∃ p, Mx ad (fun i => (lftN s xs j).testBit i) s p ∧ alo (fun i => (lftN s xs j).testBit i) p s = alo (fun i => (2 ^ s - 1).testBit i) M s + j := by
  intro j
  induction j with
  | zero => exact fun _ => ⟨fun v => Iff.rfl, M, hM, rfl⟩
  | succ j ih =>
    intro hj
    obtain ⟨i1, p, i2, i3⟩ := ih (by omega)
    obtain ⟨a1, a2, d, a3, a4⟩ := hA j (by omega)
    have hX : ∀ i, (lftN s xs j).testBit i = true → i < s := fun i hi => ((lftN_bit j).mp hi).1
    have xa : (lftN s xs j).testBit (pX xs j) = true := (lftN_bit j).mpr ⟨a1, fun l hl e => hd l j hl (by omega) e⟩
    have e : (fun i => (lftN s xs (j + 1)).testBit i) = cdel (fun i => (lftN s xs j).testBit i) (pX xs j) := by
      funext i
      rw [lftN, nsd_bit, nb_pow]
      unfold cdel
      congr 1
      congr 1
      exact decide_eq_decide.mpr ⟨fun z => z.symm, fun z => z.symm⟩
    have nd : ¬ Dn ad (fun i => (lftN s xs j).testBit i) s (pX xs j) := fun z => a2 ((i1 _).mp z)
    rw [e]
    refine ⟨fun v => (stab hX hs xa nd ((i1 d).mpr a3) a4).trans (i1 v), _, (dn_del hX xa nd i2).1, ?_⟩
    rw [(dn_del hX xa nd i2).2, i3]
    omega
/-- in a graph where neighbours of what can be alone can be alone: odd parts are as many as are alone -/
theorem odd_ge {nr : Nat → Nat} {s L0 : Nat} {p : Nat → Nat} (hs : s ≤ 9) (hL0 : L0 < 2 ^ s) (hsym : ∀ u w, (nr u).testBit w = true → (nr w).testBit u = true) (hp : Mx (fun u w => (nr u).testBit w) (fun i => L0.testBit i) s p) (hD : ∀ u w, L0.testBit u = true → L0.testBit w = true → (nr u).testBit w = true → Dn (fun u w => (nr u).testBit w) (fun i => L0.testBit i) s u → Dn (fun u w => (nr u).testBit w) (fun i => L0.testBit i) s w) : ∀ j, j ≤ s → (∀ u w, (ocs nr L0 j).1.testBit u = true → (nr u).testBit w = true → L0.testBit w = true → (ocs nr L0 j).1.testBit w = true) ∧ (∀ u, (ocs nr L0 j).1.testBit u = true → L0.testBit u = true ∧ j ≤ u) ∧ cnt (fun v => L0.testBit v && !(ocs nr L0 j).1.testBit v && decide (p v = v)) s ≤ (ocs nr L0 j).2 := by
  have s9 : (2 : Nat) ^ s ≤ 2 ^ 9 := Nat.pow_le_pow_right (by decide) hs
  have hX : ∀ i, L0.testBit i = true → i < s := fun i hi => by
    rcases Nat.lt_or_ge i s with z | z
    · exact z
    · rw [nb_big hL0 z] at hi
      exact absurd hi (by decide)
  have hsy : ∀ i j, (fun u w => (nr u).testBit w) i j = true → (fun u w => (nr u).testBit w) j i = true := fun i j h => hsym i j h
  intro j
  induction j with
  | zero => exact fun _ => ⟨fun u w _ _ h => h, fun u h => ⟨h, Nat.zero_le _⟩, Nat.le_of_eq (cnt_0 s (fun i _ => by show (L0.testBit i && !L0.testBit i && _) = false; cases L0.testBit i <;> rfl))⟩
  | succ j ih =>
    intro hj
    obtain ⟨i1, i2, i3⟩ := ih (by omega)
    have hl := ocs_lt (nr := nr) hL0 j
    rw [ocs]
    by_cases e : (ocs nr L0 j).1.testBit j = true
    · rw [if_pos e]
      generalize hL : (ocs nr L0 j).1 = L at *
      generalize (ocs nr L0 j).2 = o at *
      have hin : ∀ u, (hang nr 9 L j).testBit u = true → L.testBit u = true := hang_ind e (fun u w _ _ _ h => h)
      have l9 : L < 2 ^ 9 := Nat.lt_of_lt_of_le hl s9
      refine ⟨fun u w hu hw hws => ?_, fun u hu => ?_, ?_⟩
      · have hu : (nsd L (hang nr 9 L j)).testBit u = true := hu
        show (nsd L (hang nr 9 L j)).testBit w = true
        rw [nsd_bit, Bool.and_eq_true, Bool.not_eq_true'] at hu
        rw [nsd_bit, i1 u w hu.1 hw hws, Bool.true_and, Bool.not_eq_true']
        cases hh : (hang nr 9 L j).testBit w with
        | false => rfl
        | true =>
          have := hang_step (by omega) l9 hh (hsym u w hw) hu.1
          rw [hu.2] at this
          exact absurd this (by decide)
      · have hu : (nsd L (hang nr 9 L j)).testBit u = true := hu
        rw [nsd_bit, Bool.and_eq_true, Bool.not_eq_true'] at hu
        obtain ⟨a, b⟩ := i2 u hu.1
        refine ⟨a, ?_⟩
        rcases Nat.lt_or_ge j u with z | z
        · exact z
        · have : u = j := by omega
          rw [this, hang_self] at hu
          exact absurd hu.2 (by decide)
      · show cnt (fun v => L0.testBit v && !(nsd L (hang nr 9 L j)).testBit v && decide (p v = v)) s ≤ o + pop (hang nr 9 L j) % 2
        have h9 : hang nr 9 L j < 2 ^ s := nb_lt fun i hi => by
          cases ee : (hang nr 9 L j).testBit i with
          | false => rfl
          | true =>
            have := hX i (i2 i (hin i ee)).1
            omega
        rw [pop_n h9 (by omega)]
        have c1 := cnt_split (X := fun v => L0.testBit v && !(nsd L (hang nr 9 L j)).testBit v && decide (p v = v)) (Y := fun v => (hang nr 9 L j).testBit v) s
        have c2 := cnt_le (X := fun v => L0.testBit v && !(nsd L (hang nr 9 L j)).testBit v && decide (p v = v) && !(hang nr 9 L j).testBit v) (Y := fun v => L0.testBit v && !L.testBit v && decide (p v = v)) s (fun v _ h => by
          have h : (L0.testBit v && !(nsd L (hang nr 9 L j)).testBit v && decide (p v = v) && !(hang nr 9 L j).testBit v) = true := h
          show (L0.testBit v && !L.testBit v && decide (p v = v)) = true
          rw [nsd_bit] at h
          revert h
          cases L0.testBit v <;> cases L.testBit v <;> cases (hang nr 9 L j).testBit v <;> cases decide (p v = v) <;> decide)
        have c3 := cnt_le (X := fun v => L0.testBit v && !(nsd L (hang nr 9 L j)).testBit v && decide (p v = v) && (hang nr 9 L j).testBit v) (Y := fun v => (hang nr 9 L j).testBit v && decide (p v = v)) s (fun v _ h => by
          have h : (L0.testBit v && !(nsd L (hang nr 9 L j)).testBit v && decide (p v = v) && (hang nr 9 L j).testBit v) = true := h
          show ((hang nr 9 L j).testBit v && decide (p v = v)) = true
          revert h
          cases L0.testBit v <;> cases (nsd L (hang nr 9 L j)).testBit v <;> cases (hang nr 9 L j).testBit v <;> cases decide (p v = v) <;> decide)
        have c4 := cnt_split (X := fun v => (hang nr 9 L j).testBit v) (Y := fun v => decide (p v = v)) s
        have c5 := cnt_even (p := p) (n := s) s (fun v => (hang nr 9 L j).testBit v && !decide (p v = v)) (cnt_n s) (fun i hi hx => by
          have hx : ((hang nr 9 L j).testBit i && !decide (p i = i)) = true := hx
          rw [Bool.and_eq_true, Bool.not_eq_true', decide_eq_false_iff_not] at hx
          have x2 := hp.1.X hx.2
          have x3 := ((hp.1 i).2 hx.2).2
          refine ⟨hX _ x2, ?_, hx.2, (hp.1 i).1⟩
          show ((hang nr 9 L j).testBit (p i) && !decide (p (p i) = p i)) = true
          rw [hang_step (by omega) l9 hx.1 x3 (i1 i (p i) (hin i hx.1) x3 x2), (hp.1 i).1, decide_eq_false (fun e => hx.2 e.symm)]
          rfl)
        have con : ∀ u, (hang nr 9 L j).testBit u = true → ((Dn (fun u w => (nr u).testBit w) (fun i => L0.testBit i) s u ↔ Dn (fun u w => (nr u).testBit w) (fun i => L0.testBit i) s j) ∧ L.testBit u = true) ∧ (Dn (fun u w => (nr u).testBit w) (fun i => L0.testBit i) s j → Nb (fun u w => (nr u).testBit w) (fun i => L0.testBit i) s u j) := by
          refine hang_ind ⟨⟨Iff.rfl, e⟩, fun _ _ _ _ _ _ _ => rfl⟩ (fun u w hu hus huw hw => ?_)
          have hu0 := (i2 u hu.1.2).1
          have hw0 := (i2 w hw).1
          refine ⟨⟨⟨fun z => hu.1.1.mp (hD w u hw0 hu0 (hsym u w huw) z), fun z => hD u w hu0 hw0 huw (hu.1.1.mpr z)⟩, hw⟩, fun z => ?_⟩
          exact Nb.tr hX hsy (hu.1.1.mpr z) (Nb.ad hX hsy (hsym u w huw)) (hu.2 z)
        have c6 : cnt (fun v => (hang nr 9 L j).testBit v && decide (p v = v)) s ≤ 1 := by
          rcases Nat.lt_or_ge 1 (cnt (fun v => (hang nr 9 L j).testBit v && decide (p v = v)) s) with z | z
          · obtain ⟨v, v1, v2⟩ := cnt_ex s (Nat.lt_of_succ_lt z)
            have d1 := cnt_del (X := fun v => (hang nr 9 L j).testBit v && decide (p v = v)) v2 s v1
            obtain ⟨w, w1, w2⟩ := cnt_ex (X := cdel (fun v => (hang nr 9 L j).testBit v && decide (p v = v)) v) s (by omega)
            obtain ⟨w3, w4⟩ := cdel_eq.mp w2
            have v2 : ((hang nr 9 L j).testBit v && decide (p v = v)) = true := v2
            have w3 : ((hang nr 9 L j).testBit w && decide (p w = w)) = true := w3
            rw [Bool.and_eq_true, decide_eq_true_eq] at v2 w3
            obtain ⟨⟨a1, a2⟩, a3⟩ := con v v2.1
            obtain ⟨⟨b1, b2⟩, b3⟩ := con w w3.1
            have dj := a1.mp ⟨p, hp, (i2 v a2).1, v2.2⟩
            exact absurd (Nb.tr hX hsy dj (b3 dj) (a3 dj).sy p hp (i2 w b2).1 (i2 v a2).1 w3.2 v2.2) w4
          · exact z
        omega
    · rw [if_neg e]
      refine ⟨i1, fun u hu => ?_, i3⟩
      obtain ⟨a, b⟩ := i2 u hu
      refine ⟨a, ?_⟩
      rcases Nat.lt_or_ge j u with z | z
      · exact z
      · have : u = j := by omega
        rw [this] at hu
        exact absurd hu e
end
