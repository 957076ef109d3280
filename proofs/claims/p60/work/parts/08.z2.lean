section
variable {l : Launch} {X : wkX} {cc : ByteArray} {own : String} {nL : Nat} {Ts : List Cond} {cells slots pc : Nat} {S : wPS} {lv : wkLv} {st rest : List Value}
theorem wkNot {A : Nat → Prop} {L : List Nat} {f : Nat → va_E} {q : Nat} {e : va_E} (h : va_D A (va_pl L f ++ [(q, e)])) : ¬ q ∈ L := by
  intro hq
  obtain ⟨i, hi⟩ := List.getElem?_of_mem (show (q, f q) ∈ va_pl L f from List.mem_map.mpr ⟨q, hq, rfl⟩)
  have hl := (List.getElem?_eq_some_iff.mp hi).1
  have h1 : (va_pl L f ++ [(q, e)])[i]? = some (q, f q) := by rw [List.getElem?_append_left hl]; exact hi
  have h2 : (va_pl L f ++ [(q, e)])[(va_pl L f).length]? = some (q, e) := by
    rw [List.getElem?_append_right (Nat.le_refl _), Nat.sub_self]
    rfl
  have := h.1 i _ _ _ h1 h2 rfl
  omega
theorem wk_newI (C : wkC X cc own nL Ts) {d k n : Nat} (hR : wkRm X d k n) {m : Int32} (hw : Cond.arrayClass .int ∈ Ts) (hm : ¬ m < 0) (hc : cells + 1 ≤ k) (hs : slots + m.toNatClampNeg ≤ n) (hb4 : m.toNatClampNeg * 4 ≤ 536870912) (hd : decode cc pc = .ok (.newarray .int, 2))
    (kk : ∀ q : Nat, ¬ q ∈ S.L → wkGo l X nL (cells + 1) (slots + m.toNatClampNeg) (pc + 2) (wnI S q 13 m.toNatClampNeg (fun _ => 0)) lv (.ref q :: rest)) : wkGo l X nL cells slots pc S lv (.int m :: rest) := by
  obtain ⟨p, e, R, s, m', args, below, meth, c, Q, D, A, cy, g⟩ := X
  intro H locs ls hP hD hS hl
  obtain ⟨⟨hx, hb, hml, hown, hts⟩, hK, hA, hNw, hG⟩ := C
  have hR : R = { frames := d, cells := k, slots := n, locals := 80 * d } := hR
  subst hR
  refine va_newa (atype := .int) (ty := .int) hx hb (hts _ hw) rfl hK hP hD hS hA (a0 := (m.toNatClampNeg, .inl fun _ => 0)) (fun cA => rfl) hm rfl hb4 hc hs hd (fun q cA H1 hK1 hP1 hD1 hS1 => ?_)
  have hcy : cA = cy 1 := Option.some.inj ((hK1.2 7 _ rfl).2.symm.trans (hK.2 1 _ rfl).2)
  subst hcy
  have hq := wkNot hD1
  rw [va_pl_push hq, va_pl_congr (wNw_13 cy S q m.toNatClampNeg (fun _ => 0))] at hP1 hD1
  exact kk q hq H1 locs ls hP1 hD1 hS1 hl
theorem wkNat : nativeFrameWords "java/lang/System" "arraycopy" 5 ≤ 60 := by decide +kernel
theorem wk_copyI (C : wkC X cc own nL Ts) {d k n0 index : Nat} (hR : wkRm X d k n0) {a0 a : Nat} {sp dp n : Int32} {S' : wPS} (h1 : Cond.methodLink own index arraycopyName ∈ Ts) (h2 : Cond.native arraycopyName ∈ Ts) (h3 : Cond.static arraycopyName ∈ Ts) (h4 : Cond.initialized "java/lang/System" ∈ Ts) (hd1 : 1 ≤ d)
    (hL0 : a0 ∈ S.L) (hk0 : S.K a0 = 13) (hL : a ∈ S.L) (hk : S.K a = 13) (e1 : ¬ sp < 0) (e2 : ¬ dp < 0) (e3 : ¬ n < 0) (e4 : sp.toNatClampNeg + n.toNatClampNeg ≤ S.len a0) (e5 : dp.toNatClampNeg + n.toNatClampNeg ≤ S.len a) (hcat : (rest.map fun v => v.category).sum ≤ 8)
    (hS' : wuRI S a (va_cpy (S.rI a0) (S.rI a) sp.toNatClampNeg dp.toNatClampNeg n.toNatClampNeg) = S') (hd : decode cc pc = .ok (.invokestatic index, 3)) (kk : wkGo l X nL cells slots (pc + 3) S' lv rest) : wkGo l X nL cells slots pc S lv (.int n :: .int dp :: .ref a :: .int sp :: .ref a0 :: rest) := by
  obtain ⟨p, e, R, s, m, args, below, meth, c, Q, D, A, cy, g⟩ := X
  intro H locs ls hP hD hS hl
  obtain ⟨⟨hx, hb, hml, hown, hts⟩, hK, hA, hNw, hG⟩ := C
  have hR : R = { frames := d, cells := k, slots := n0, locals := 80 * d } := hR
  subst hR
  subst hS'
  obtain ⟨q0, -, hq0⟩ := wkAt hL0 (wAt_13 cy S hk0)
  obtain ⟨q, hqq, hq⟩ := wkAt hL (wAt_13 cy S hk)
  have hset := wkSet hD hL hqq (wSt_13 cy S hk (va_cpy (S.rI a0) (S.rI a) sp.toNatClampNeg dp.toNatClampNeg n.toNatClampNeg)) rfl
  refine va_copyi hx hb (hml.trans hl.1.symm) hown (hts _ h1) (hts _ h2) (hts _ h3) (hts _ h4) hK hP hD hS q0 q 1 1 hq0 hq rfl rfl rfl e1 e2 e3 e4 e5 (fun _ _ => rfl) hd1 ?_ hd (fun H1 locs1 hP1 hD1 hS1 => ?_)
  · have := wkNat
    show _ ≤ 80 * d
    omega
  · rw [hset] at hP1 hD1
    exact kk H1 locs1 ls hP1 hD1 hS1 hl
theorem wk_copyJ (C : wkC X cc own nL Ts) {d k n0 index : Nat} (hR : wkRm X d k n0) {a0 a : Nat} {sp dp n : Int32} {S' : wPS} (h1 : Cond.methodLink own index arraycopyName ∈ Ts) (h2 : Cond.native arraycopyName ∈ Ts) (h3 : Cond.static arraycopyName ∈ Ts) (h4 : Cond.initialized "java/lang/System" ∈ Ts) (hd1 : 1 ≤ d)
    (hL0 : a0 ∈ S.L) (hk0 : S.K a0 = 14) (hL : a ∈ S.L) (hk : S.K a = 14) (e1 : ¬ sp < 0) (e2 : ¬ dp < 0) (e3 : ¬ n < 0) (e4 : sp.toNatClampNeg + n.toNatClampNeg ≤ S.len a0) (e5 : dp.toNatClampNeg + n.toNatClampNeg ≤ S.len a) (hcat : (rest.map fun v => v.category).sum ≤ 8)
    (hS' : wuRJ S a (va_cpy (S.rJ a0) (S.rJ a) sp.toNatClampNeg dp.toNatClampNeg n.toNatClampNeg) = S') (hd : decode cc pc = .ok (.invokestatic index, 3)) (kk : wkGo l X nL cells slots (pc + 3) S' lv rest) : wkGo l X nL cells slots pc S lv (.int n :: .int dp :: .ref a :: .int sp :: .ref a0 :: rest) := by
  obtain ⟨p, e, R, s, m, args, below, meth, c, Q, D, A, cy, g⟩ := X
  intro H locs ls hP hD hS hl
  obtain ⟨⟨hx, hb, hml, hown, hts⟩, hK, hA, hNw, hG⟩ := C
  have hR : R = { frames := d, cells := k, slots := n0, locals := 80 * d } := hR
  subst hR
  subst hS'
  obtain ⟨q0, -, hq0⟩ := wkAt hL0 (wAt_14 cy S hk0)
  obtain ⟨q, hqq, hq⟩ := wkAt hL (wAt_14 cy S hk)
  have hset := wkSet hD hL hqq (wSt_14 cy S hk (va_cpy (S.rJ a0) (S.rJ a) sp.toNatClampNeg dp.toNatClampNeg n.toNatClampNeg)) rfl
  refine va_copyl hx hb (hml.trans hl.1.symm) hown (hts _ h1) (hts _ h2) (hts _ h3) (hts _ h4) hK hP hD hS q0 q 2 2 hq0 hq rfl rfl rfl e1 e2 e3 e4 e5 (fun _ _ => rfl) hd1 ?_ hd (fun H1 locs1 hP1 hD1 hS1 => ?_)
  · have := wkNat
    show _ ≤ 80 * d
    omega
  · rw [hset] at hP1 hD1
    exact kk H1 locs1 ls hP1 hD1 hS1 hl
theorem wk_cald (C : wkC X cc own nL Ts) {a : Nat} {i v : Int32} (hL : a ∈ S.L) (hk : S.K a = 12) (hin : vp_in i (S.len a)) (hv : S.rI a i.toNatClampNeg = v) (hd : decode cc pc = .ok (.caload, 1)) (k : wkGo l X nL cells slots (pc + 1) S lv (.int v :: rest)) : wkGo l X nL cells slots pc S lv (.int i :: .ref a :: rest) := by
  obtain ⟨p, e, R, s, m, args, below, meth, c, Q, D, A, cy, g⟩ := X
  intro H locs ls hP hD hS hl
  obtain ⟨⟨hx, hb, hml, hown, hts⟩, hK, hA, hNw, hG⟩ := C
  subst hv
  obtain ⟨q, -, hq⟩ := wkAt hL (wAt_12 cy S hk)
  exact va_cald hx hb hK hP q 0 hq rfl hin hd (k H locs ls hP hD hS hl)
theorem wk_cast (C : wkC X cc own nL Ts) {a : Nat} {i x : Int32} {S' : wPS} (hL : a ∈ S.L) (hk : S.K a = 12) (hin : vp_in i (S.len a)) (hx' : vp_nar .char x = x) (hS' : wuI S a i x = S') (hd : decode cc pc = .ok (.castore, 1)) (k : wkGo l X nL cells slots (pc + 1) S' lv rest) : wkGo l X nL cells slots pc S lv (.int x :: .int i :: .ref a :: rest) := by
  obtain ⟨p, e, R, s, m, args, below, meth, c, Q, D, A, cy, g⟩ := X
  intro H locs ls hP hD hS hl
  obtain ⟨⟨hx, hb, hml, hown, hts⟩, hK, hA, hNw, hG⟩ := C
  subst hS'
  obtain ⟨q, hq0, hq⟩ := wkAt hL (wAt_12 cy S hk)
  have hset := wkSet hD hL hq0 (wSt_12 cy S hk (upd (S.rI a) i.toNatClampNeg x)) rfl
  refine va_cast hx hb hK hP hD hS q 0 hq rfl hin hd (fun H1 locs1 hP1 hD1 hS1 => ?_)
  rw [hx', hset] at hP1 hD1
  exact k H1 locs1 ls hP1 hD1 hS1 hl
theorem wkNarC2 {x : Int32} (h : (x.toUInt32 % 65536).toInt32 = x) : vp_nar .char x = x := by
  have := pk_vc x
  rwa [h] at this
theorem wk_aastClaim (C : wkC X cc own nL Ts) {a v : Nat} {i : Int32} {S' : wPS} (hL : a ∈ S.L) (hk : S.K a = 15) (hin : vp_in i (S.len a)) (hLv : v ∈ S.L) (hkv : S.K v = 0) (hS' : wuRef S a i v = S') (hd : decode cc pc = .ok (.aastore, 1)) (k : wkGo l X nL cells slots (pc + 1) S' lv rest) : wkGo l X nL cells slots pc S lv (.ref v :: .int i :: .ref a :: rest) := by
  obtain ⟨p, e, R, s, m, args, below, meth, c, Q, D, A, cy, g⟩ := X
  intro H locs ls hP hD hS hl
  obtain ⟨⟨hx, hb, hml, hown, hts⟩, hK, hA, hNw, hG⟩ := C
  subst hS'
  obtain ⟨q, hq0, hq⟩ := wkAt hL (wAt_15 cy S hk)
  obtain ⟨qv, -, hqv⟩ := wkAt hLv (wAt_0 cy S hkv)
  have hset := wkSet hD hL hq0 (wSt_15 cy S hk (va_up (S.rA a) i.toNatClampNeg (some v))) rfl
  refine va_astq hx hb hK hP hD hS q 3 qv 2 hq rfl hqv rfl hin hd (fun H1 locs1 hP1 hD1 hS1 => ?_)
  rw [hset] at hP1 hD1
  exact k H1 locs1 ls hP1 hD1 hS1 hl
/-- a new row keeps what is well laid -/
theorem wfN {L : List Nat} {K : Nat → Nat} {q kd k1 k2 : Nat} {f : Nat → Option Nat} (hq : ¬ q ∈ L) (hk : kd ≠ k1) (h : ∀ a : Nat, a ∈ L ∧ K a = k1 → ∃ p : Nat, f a = some p ∧ p ∈ L ∧ K p = k2) : ∀ a : Nat, a ∈ L ++ [q] ∧ va_up K q kd a = k1 → ∃ p : Nat, f a = some p ∧ p ∈ L ++ [q] ∧ va_up K q kd p = k2 := by
  intro a ha
  by_cases haq : a = q
  · subst haq
    exact absurd ((va_up_self K a kd).symm.trans ha.2) hk
  · have h1 : a ∈ L := by
      rcases List.mem_append.mp ha.1 with h | h
      · exact h
      · exact absurd (List.mem_singleton.mp h) haq
    have h2 : K a = k1 := (va_up_ne K kd haq).symm.trans ha.2
    obtain ⟨p, e1, e2, e3⟩ := h a ⟨h1, h2⟩
    have hpq : p ≠ q := fun z => hq (z ▸ e2)
    exact ⟨p, e1, List.mem_append_left _ e2, (va_up_ne K kd hpq).trans e3⟩
theorem wfNr {L : List Nat} {K len : Nat → Nat} {q kd k1 k2 z : Nat} {f : Nat → Nat → Option Nat} (hq : ¬ q ∈ L) (hk : kd ≠ k1) (h : ∀ a i : Nat, a ∈ L ∧ K a = k1 → i < len a → ∃ p : Nat, f a i = some p ∧ p ∈ L ∧ K p = k2) : ∀ a i : Nat, a ∈ L ++ [q] ∧ va_up K q kd a = k1 → i < va_up len q z a → ∃ p : Nat, f a i = some p ∧ p ∈ L ++ [q] ∧ va_up K q kd p = k2 := by
  intro a i ha hi
  by_cases haq : a = q
  · subst haq
    exact absurd ((va_up_self K a kd).symm.trans ha.2) hk
  · have h1 : a ∈ L := by
      rcases List.mem_append.mp ha.1 with h | h
      · exact h
      · exact absurd (List.mem_singleton.mp h) haq
    have h2 : K a = k1 := (va_up_ne K kd haq).symm.trans ha.2
    obtain ⟨p, e1, e2, e3⟩ := h a i ⟨h1, h2⟩ (by rwa [va_up_ne len z haq] at hi)
    have hpq : p ≠ q := fun z => hq (z ▸ e2)
    exact ⟨p, e1, List.mem_append_left _ e2, (va_up_ne K kd hpq).trans e3⟩
theorem wkWF_newI {S S1 : wPS} {q z : Nat} {f : Nat → Int32} (e : S1 = wnI S q 13 z f) (hW : wkWF S) (hq : ¬ q ∈ S.L) : wkWF S1 ∧ wkExt S S1 ∧ wkIs S1 q 13 := by
  subst e
  have h : wkWFr S.L S.K S.fA S.len S.rA := hW
  refine ⟨(show wkWFr (S.L ++ [q]) (va_up S.K q 13) S.fA (va_up S.len q z) S.rA from ⟨wfN hq (by decide) h.1, wfN hq (by decide) h.2.1, wfN hq (by decide) h.2.2.1, wfN hq (by decide) h.2.2.2.1, wfN hq (by decide) h.2.2.2.2.1, wfN hq (by decide) h.2.2.2.2.2.1, wfN hq (by decide) h.2.2.2.2.2.2.1, wfN hq (by decide) h.2.2.2.2.2.2.2.1, wfN hq (by decide) h.2.2.2.2.2.2.2.2.1, wfN hq (by decide) h.2.2.2.2.2.2.2.2.2.1, wfN hq (by decide) h.2.2.2.2.2.2.2.2.2.2.1, wfN hq (by decide) h.2.2.2.2.2.2.2.2.2.2.2.1, wfN hq (by decide) h.2.2.2.2.2.2.2.2.2.2.2.2.1, wfN hq (by decide) h.2.2.2.2.2.2.2.2.2.2.2.2.2.1, wfN hq (by decide) h.2.2.2.2.2.2.2.2.2.2.2.2.2.2.1, wfN hq (by decide) h.2.2.2.2.2.2.2.2.2.2.2.2.2.2.2.1, wfN hq (by decide) h.2.2.2.2.2.2.2.2.2.2.2.2.2.2.2.2.1, wfN hq (by decide) h.2.2.2.2.2.2.2.2.2.2.2.2.2.2.2.2.2.1, wfN hq (by decide) h.2.2.2.2.2.2.2.2.2.2.2.2.2.2.2.2.2.2.1, wfN hq (by decide) h.2.2.2.2.2.2.2.2.2.2.2.2.2.2.2.2.2.2.2.1, wfN hq (by decide) h.2.2.2.2.2.2.2.2.2.2.2.2.2.2.2.2.2.2.2.2.1, wfN hq (by decide) h.2.2.2.2.2.2.2.2.2.2.2.2.2.2.2.2.2.2.2.2.2.1, wfN hq (by decide) h.2.2.2.2.2.2.2.2.2.2.2.2.2.2.2.2.2.2.2.2.2.2.1, wfN hq (by decide) h.2.2.2.2.2.2.2.2.2.2.2.2.2.2.2.2.2.2.2.2.2.2.2.1, wfN hq (by decide) h.2.2.2.2.2.2.2.2.2.2.2.2.2.2.2.2.2.2.2.2.2.2.2.2.1, wfN hq (by decide) h.2.2.2.2.2.2.2.2.2.2.2.2.2.2.2.2.2.2.2.2.2.2.2.2.2.1, wfN hq (by decide) h.2.2.2.2.2.2.2.2.2.2.2.2.2.2.2.2.2.2.2.2.2.2.2.2.2.2.1, wfN hq (by decide) h.2.2.2.2.2.2.2.2.2.2.2.2.2.2.2.2.2.2.2.2.2.2.2.2.2.2.2.1, wfN hq (by decide) h.2.2.2.2.2.2.2.2.2.2.2.2.2.2.2.2.2.2.2.2.2.2.2.2.2.2.2.2.1, wfN hq (by decide) h.2.2.2.2.2.2.2.2.2.2.2.2.2.2.2.2.2.2.2.2.2.2.2.2.2.2.2.2.2.1, wfN hq (by decide) h.2.2.2.2.2.2.2.2.2.2.2.2.2.2.2.2.2.2.2.2.2.2.2.2.2.2.2.2.2.2.1, wfN hq (by decide) h.2.2.2.2.2.2.2.2.2.2.2.2.2.2.2.2.2.2.2.2.2.2.2.2.2.2.2.2.2.2.2.1, wfN hq (by decide) h.2.2.2.2.2.2.2.2.2.2.2.2.2.2.2.2.2.2.2.2.2.2.2.2.2.2.2.2.2.2.2.2.1, wfN hq (by decide) h.2.2.2.2.2.2.2.2.2.2.2.2.2.2.2.2.2.2.2.2.2.2.2.2.2.2.2.2.2.2.2.2.2.1, wfN hq (by decide) h.2.2.2.2.2.2.2.2.2.2.2.2.2.2.2.2.2.2.2.2.2.2.2.2.2.2.2.2.2.2.2.2.2.2.1, wfN hq (by decide) h.2.2.2.2.2.2.2.2.2.2.2.2.2.2.2.2.2.2.2.2.2.2.2.2.2.2.2.2.2.2.2.2.2.2.2.1, wfN hq (by decide) h.2.2.2.2.2.2.2.2.2.2.2.2.2.2.2.2.2.2.2.2.2.2.2.2.2.2.2.2.2.2.2.2.2.2.2.2.1, wfN hq (by decide) h.2.2.2.2.2.2.2.2.2.2.2.2.2.2.2.2.2.2.2.2.2.2.2.2.2.2.2.2.2.2.2.2.2.2.2.2.2.1, wfN hq (by decide) h.2.2.2.2.2.2.2.2.2.2.2.2.2.2.2.2.2.2.2.2.2.2.2.2.2.2.2.2.2.2.2.2.2.2.2.2.2.2.1, wfN hq (by decide) h.2.2.2.2.2.2.2.2.2.2.2.2.2.2.2.2.2.2.2.2.2.2.2.2.2.2.2.2.2.2.2.2.2.2.2.2.2.2.2.1, wfN hq (by decide) h.2.2.2.2.2.2.2.2.2.2.2.2.2.2.2.2.2.2.2.2.2.2.2.2.2.2.2.2.2.2.2.2.2.2.2.2.2.2.2.2.1, wfN hq (by decide) h.2.2.2.2.2.2.2.2.2.2.2.2.2.2.2.2.2.2.2.2.2.2.2.2.2.2.2.2.2.2.2.2.2.2.2.2.2.2.2.2.2.1, wfN hq (by decide) h.2.2.2.2.2.2.2.2.2.2.2.2.2.2.2.2.2.2.2.2.2.2.2.2.2.2.2.2.2.2.2.2.2.2.2.2.2.2.2.2.2.2.1, wfN hq (by decide) h.2.2.2.2.2.2.2.2.2.2.2.2.2.2.2.2.2.2.2.2.2.2.2.2.2.2.2.2.2.2.2.2.2.2.2.2.2.2.2.2.2.2.2.1, wfN hq (by decide) h.2.2.2.2.2.2.2.2.2.2.2.2.2.2.2.2.2.2.2.2.2.2.2.2.2.2.2.2.2.2.2.2.2.2.2.2.2.2.2.2.2.2.2.2.1, wfN hq (by decide) h.2.2.2.2.2.2.2.2.2.2.2.2.2.2.2.2.2.2.2.2.2.2.2.2.2.2.2.2.2.2.2.2.2.2.2.2.2.2.2.2.2.2.2.2.2.1, wfN hq (by decide) h.2.2.2.2.2.2.2.2.2.2.2.2.2.2.2.2.2.2.2.2.2.2.2.2.2.2.2.2.2.2.2.2.2.2.2.2.2.2.2.2.2.2.2.2.2.2.1, wfN hq (by decide) h.2.2.2.2.2.2.2.2.2.2.2.2.2.2.2.2.2.2.2.2.2.2.2.2.2.2.2.2.2.2.2.2.2.2.2.2.2.2.2.2.2.2.2.2.2.2.2.1, wfN hq (by decide) h.2.2.2.2.2.2.2.2.2.2.2.2.2.2.2.2.2.2.2.2.2.2.2.2.2.2.2.2.2.2.2.2.2.2.2.2.2.2.2.2.2.2.2.2.2.2.2.2.1, wfN hq (by decide) h.2.2.2.2.2.2.2.2.2.2.2.2.2.2.2.2.2.2.2.2.2.2.2.2.2.2.2.2.2.2.2.2.2.2.2.2.2.2.2.2.2.2.2.2.2.2.2.2.2.1, wfN hq (by decide) h.2.2.2.2.2.2.2.2.2.2.2.2.2.2.2.2.2.2.2.2.2.2.2.2.2.2.2.2.2.2.2.2.2.2.2.2.2.2.2.2.2.2.2.2.2.2.2.2.2.2.1, wfN hq (by decide) h.2.2.2.2.2.2.2.2.2.2.2.2.2.2.2.2.2.2.2.2.2.2.2.2.2.2.2.2.2.2.2.2.2.2.2.2.2.2.2.2.2.2.2.2.2.2.2.2.2.2.2.1, wfN hq (by decide) h.2.2.2.2.2.2.2.2.2.2.2.2.2.2.2.2.2.2.2.2.2.2.2.2.2.2.2.2.2.2.2.2.2.2.2.2.2.2.2.2.2.2.2.2.2.2.2.2.2.2.2.2.1, wfN hq (by decide) h.2.2.2.2.2.2.2.2.2.2.2.2.2.2.2.2.2.2.2.2.2.2.2.2.2.2.2.2.2.2.2.2.2.2.2.2.2.2.2.2.2.2.2.2.2.2.2.2.2.2.2.2.2.1, wfN hq (by decide) h.2.2.2.2.2.2.2.2.2.2.2.2.2.2.2.2.2.2.2.2.2.2.2.2.2.2.2.2.2.2.2.2.2.2.2.2.2.2.2.2.2.2.2.2.2.2.2.2.2.2.2.2.2.2.1, wfN hq (by decide) h.2.2.2.2.2.2.2.2.2.2.2.2.2.2.2.2.2.2.2.2.2.2.2.2.2.2.2.2.2.2.2.2.2.2.2.2.2.2.2.2.2.2.2.2.2.2.2.2.2.2.2.2.2.2.2.1, wfN hq (by decide) h.2.2.2.2.2.2.2.2.2.2.2.2.2.2.2.2.2.2.2.2.2.2.2.2.2.2.2.2.2.2.2.2.2.2.2.2.2.2.2.2.2.2.2.2.2.2.2.2.2.2.2.2.2.2.2.2.1, wfN hq (by decide) h.2.2.2.2.2.2.2.2.2.2.2.2.2.2.2.2.2.2.2.2.2.2.2.2.2.2.2.2.2.2.2.2.2.2.2.2.2.2.2.2.2.2.2.2.2.2.2.2.2.2.2.2.2.2.2.2.2.1, wfN hq (by decide) h.2.2.2.2.2.2.2.2.2.2.2.2.2.2.2.2.2.2.2.2.2.2.2.2.2.2.2.2.2.2.2.2.2.2.2.2.2.2.2.2.2.2.2.2.2.2.2.2.2.2.2.2.2.2.2.2.2.2.1, wfN hq (by decide) h.2.2.2.2.2.2.2.2.2.2.2.2.2.2.2.2.2.2.2.2.2.2.2.2.2.2.2.2.2.2.2.2.2.2.2.2.2.2.2.2.2.2.2.2.2.2.2.2.2.2.2.2.2.2.2.2.2.2.2.1, wfN hq (by decide) h.2.2.2.2.2.2.2.2.2.2.2.2.2.2.2.2.2.2.2.2.2.2.2.2.2.2.2.2.2.2.2.2.2.2.2.2.2.2.2.2.2.2.2.2.2.2.2.2.2.2.2.2.2.2.2.2.2.2.2.2.1, wfN hq (by decide) h.2.2.2.2.2.2.2.2.2.2.2.2.2.2.2.2.2.2.2.2.2.2.2.2.2.2.2.2.2.2.2.2.2.2.2.2.2.2.2.2.2.2.2.2.2.2.2.2.2.2.2.2.2.2.2.2.2.2.2.2.2.1, wfN hq (by decide) h.2.2.2.2.2.2.2.2.2.2.2.2.2.2.2.2.2.2.2.2.2.2.2.2.2.2.2.2.2.2.2.2.2.2.2.2.2.2.2.2.2.2.2.2.2.2.2.2.2.2.2.2.2.2.2.2.2.2.2.2.2.2.1, wfN hq (by decide) h.2.2.2.2.2.2.2.2.2.2.2.2.2.2.2.2.2.2.2.2.2.2.2.2.2.2.2.2.2.2.2.2.2.2.2.2.2.2.2.2.2.2.2.2.2.2.2.2.2.2.2.2.2.2.2.2.2.2.2.2.2.2.2.1, wfN hq (by decide) h.2.2.2.2.2.2.2.2.2.2.2.2.2.2.2.2.2.2.2.2.2.2.2.2.2.2.2.2.2.2.2.2.2.2.2.2.2.2.2.2.2.2.2.2.2.2.2.2.2.2.2.2.2.2.2.2.2.2.2.2.2.2.2.2.1, wfN hq (by decide) h.2.2.2.2.2.2.2.2.2.2.2.2.2.2.2.2.2.2.2.2.2.2.2.2.2.2.2.2.2.2.2.2.2.2.2.2.2.2.2.2.2.2.2.2.2.2.2.2.2.2.2.2.2.2.2.2.2.2.2.2.2.2.2.2.2.1, wfN hq (by decide) h.2.2.2.2.2.2.2.2.2.2.2.2.2.2.2.2.2.2.2.2.2.2.2.2.2.2.2.2.2.2.2.2.2.2.2.2.2.2.2.2.2.2.2.2.2.2.2.2.2.2.2.2.2.2.2.2.2.2.2.2.2.2.2.2.2.2.1, wfN hq (by decide) h.2.2.2.2.2.2.2.2.2.2.2.2.2.2.2.2.2.2.2.2.2.2.2.2.2.2.2.2.2.2.2.2.2.2.2.2.2.2.2.2.2.2.2.2.2.2.2.2.2.2.2.2.2.2.2.2.2.2.2.2.2.2.2.2.2.2.2.1, wfN hq (by decide) h.2.2.2.2.2.2.2.2.2.2.2.2.2.2.2.2.2.2.2.2.2.2.2.2.2.2.2.2.2.2.2.2.2.2.2.2.2.2.2.2.2.2.2.2.2.2.2.2.2.2.2.2.2.2.2.2.2.2.2.2.2.2.2.2.2.2.2.2.1, wfNr hq (by decide) h.2.2.2.2.2.2.2.2.2.2.2.2.2.2.2.2.2.2.2.2.2.2.2.2.2.2.2.2.2.2.2.2.2.2.2.2.2.2.2.2.2.2.2.2.2.2.2.2.2.2.2.2.2.2.2.2.2.2.2.2.2.2.2.2.2.2.2.2.2.1, wfNr hq (by decide) h.2.2.2.2.2.2.2.2.2.2.2.2.2.2.2.2.2.2.2.2.2.2.2.2.2.2.2.2.2.2.2.2.2.2.2.2.2.2.2.2.2.2.2.2.2.2.2.2.2.2.2.2.2.2.2.2.2.2.2.2.2.2.2.2.2.2.2.2.2.2.1, wfNr hq (by decide) h.2.2.2.2.2.2.2.2.2.2.2.2.2.2.2.2.2.2.2.2.2.2.2.2.2.2.2.2.2.2.2.2.2.2.2.2.2.2.2.2.2.2.2.2.2.2.2.2.2.2.2.2.2.2.2.2.2.2.2.2.2.2.2.2.2.2.2.2.2.2.2.1, wfNr hq (by decide) h.2.2.2.2.2.2.2.2.2.2.2.2.2.2.2.2.2.2.2.2.2.2.2.2.2.2.2.2.2.2.2.2.2.2.2.2.2.2.2.2.2.2.2.2.2.2.2.2.2.2.2.2.2.2.2.2.2.2.2.2.2.2.2.2.2.2.2.2.2.2.2.2⟩), fun a k ha => ⟨List.mem_append_left _ ha.1, ?_⟩, List.mem_append_right _ List.mem_cons_self, va_up_self _ _ _⟩
  have : a ≠ q := fun z => hq (z ▸ ha.1)
  exact (va_up_ne S.K 13 this).trans ha.2
theorem wkWF_Row_numbers {S : wPS} {a q : Nat} (hW : wkWF S) (ha : wkIs S a 9) (hq : wkIs S q 13) : wkWF (wu_Row_numbers S a (some q)) := by
  have h : wkWFr S.L S.K S.fA S.len S.rA := hW
  exact (show wkWFr S.L S.K (va_up S.fA a (va_up (S.fA a) 0 (some q))) S.len S.rA from ⟨(fun b hb => by
    by_cases hba : b = a
    · subst hba
      exact absurd (ha.2.symm.trans hb.2) (by decide)
    · obtain ⟨p, e1, e2⟩ := h.1 b hb
      exact ⟨p, by simp [va_up, hba]; exact e1, e2⟩),
  (fun b hb => by
    by_cases hba : b = a
    · subst hba
      exact absurd (ha.2.symm.trans hb.2) (by decide)
    · obtain ⟨p, e1, e2⟩ := h.2.1 b hb
      exact ⟨p, by simp [va_up, hba]; exact e1, e2⟩),
  (fun b hb => by
    by_cases hba : b = a
    · subst hba
      exact absurd (ha.2.symm.trans hb.2) (by decide)
    · obtain ⟨p, e1, e2⟩ := h.2.2.1 b hb
      exact ⟨p, by simp [va_up, hba]; exact e1, e2⟩),
  (fun b hb => by
    by_cases hba : b = a
    · subst hba
      exact absurd (ha.2.symm.trans hb.2) (by decide)
    · obtain ⟨p, e1, e2⟩ := h.2.2.2.1 b hb
      exact ⟨p, by simp [va_up, hba]; exact e1, e2⟩),
  (fun b hb => by
    by_cases hba : b = a
    · subst hba
      exact absurd (ha.2.symm.trans hb.2) (by decide)
    · obtain ⟨p, e1, e2⟩ := h.2.2.2.2.1 b hb
      exact ⟨p, by simp [va_up, hba]; exact e1, e2⟩),
  (fun b hb => by
    by_cases hba : b = a
    · subst hba
      exact absurd (ha.2.symm.trans hb.2) (by decide)
    · obtain ⟨p, e1, e2⟩ := h.2.2.2.2.2.1 b hb
      exact ⟨p, by simp [va_up, hba]; exact e1, e2⟩),
  (fun b hb => by
    by_cases hba : b = a
    · subst hba
      exact absurd (ha.2.symm.trans hb.2) (by decide)
    · obtain ⟨p, e1, e2⟩ := h.2.2.2.2.2.2.1 b hb
      exact ⟨p, by simp [va_up, hba]; exact e1, e2⟩),
  (fun b hb => by
    by_cases hba : b = a
    · subst hba
      exact absurd (ha.2.symm.trans hb.2) (by decide)
    · obtain ⟨p, e1, e2⟩ := h.2.2.2.2.2.2.2.1 b hb
      exact ⟨p, by simp [va_up, hba]; exact e1, e2⟩),
  (fun b hb => by
    by_cases hba : b = a
    · subst hba
      exact absurd (ha.2.symm.trans hb.2) (by decide)
    · obtain ⟨p, e1, e2⟩ := h.2.2.2.2.2.2.2.2.1 b hb
      exact ⟨p, by simp [va_up, hba]; exact e1, e2⟩),
  (fun b hb => by
    by_cases hba : b = a
    · subst hba
      exact absurd (ha.2.symm.trans hb.2) (by decide)
    · obtain ⟨p, e1, e2⟩ := h.2.2.2.2.2.2.2.2.2.1 b hb
      exact ⟨p, by simp [va_up, hba]; exact e1, e2⟩),
  (fun b hb => by
    by_cases hba : b = a
    · subst hba
      exact absurd (ha.2.symm.trans hb.2) (by decide)
    · obtain ⟨p, e1, e2⟩ := h.2.2.2.2.2.2.2.2.2.2.1 b hb
      exact ⟨p, by simp [va_up, hba]; exact e1, e2⟩),
  (fun b hb => by
    by_cases hba : b = a
    · subst hba
      exact absurd (ha.2.symm.trans hb.2) (by decide)
    · obtain ⟨p, e1, e2⟩ := h.2.2.2.2.2.2.2.2.2.2.2.1 b hb
      exact ⟨p, by simp [va_up, hba]; exact e1, e2⟩),
  (fun b hb => by
    by_cases hba : b = a
    · subst hba
      exact absurd (ha.2.symm.trans hb.2) (by decide)
    · obtain ⟨p, e1, e2⟩ := h.2.2.2.2.2.2.2.2.2.2.2.2.1 b hb
      exact ⟨p, by simp [va_up, hba]; exact e1, e2⟩),
  (fun b hb => by
    by_cases hba : b = a
    · subst hba
      exact absurd (ha.2.symm.trans hb.2) (by decide)
    · obtain ⟨p, e1, e2⟩ := h.2.2.2.2.2.2.2.2.2.2.2.2.2.1 b hb
      exact ⟨p, by simp [va_up, hba]; exact e1, e2⟩),
  (fun b hb => by
    by_cases hba : b = a
    · subst hba
      exact absurd (ha.2.symm.trans hb.2) (by decide)
    · obtain ⟨p, e1, e2⟩ := h.2.2.2.2.2.2.2.2.2.2.2.2.2.2.1 b hb
      exact ⟨p, by simp [va_up, hba]; exact e1, e2⟩),
  (fun b hb => by
    by_cases hba : b = a
    · subst hba
      exact absurd (ha.2.symm.trans hb.2) (by decide)
    · obtain ⟨p, e1, e2⟩ := h.2.2.2.2.2.2.2.2.2.2.2.2.2.2.2.1 b hb
      exact ⟨p, by simp [va_up, hba]; exact e1, e2⟩),
  (fun b hb => by
    by_cases hba : b = a
    · subst hba
      exact absurd (ha.2.symm.trans hb.2) (by decide)
    · obtain ⟨p, e1, e2⟩ := h.2.2.2.2.2.2.2.2.2.2.2.2.2.2.2.2.1 b hb
      exact ⟨p, by simp [va_up, hba]; exact e1, e2⟩),
  (fun b hb => by
    by_cases hba : b = a
    · subst hba
      exact absurd (ha.2.symm.trans hb.2) (by decide)
    · obtain ⟨p, e1, e2⟩ := h.2.2.2.2.2.2.2.2.2.2.2.2.2.2.2.2.2.1 b hb
      exact ⟨p, by simp [va_up, hba]; exact e1, e2⟩),
  (fun b hb => by
    by_cases hba : b = a
    · subst hba
      exact absurd (ha.2.symm.trans hb.2) (by decide)
    · obtain ⟨p, e1, e2⟩ := h.2.2.2.2.2.2.2.2.2.2.2.2.2.2.2.2.2.2.1 b hb
      exact ⟨p, by simp [va_up, hba]; exact e1, e2⟩),
  (fun b hb => by
    by_cases hba : b = a
    · subst hba
      exact absurd (ha.2.symm.trans hb.2) (by decide)
    · obtain ⟨p, e1, e2⟩ := h.2.2.2.2.2.2.2.2.2.2.2.2.2.2.2.2.2.2.2.1 b hb
      exact ⟨p, by simp [va_up, hba]; exact e1, e2⟩),
  (fun b hb => by
    by_cases hba : b = a
    · subst hba
      exact absurd (ha.2.symm.trans hb.2) (by decide)
    · obtain ⟨p, e1, e2⟩ := h.2.2.2.2.2.2.2.2.2.2.2.2.2.2.2.2.2.2.2.2.1 b hb
      exact ⟨p, by simp [va_up, hba]; exact e1, e2⟩),
  (fun b hb => by
    by_cases hba : b = a
    · subst hba
      exact absurd (ha.2.symm.trans hb.2) (by decide)
    · obtain ⟨p, e1, e2⟩ := h.2.2.2.2.2.2.2.2.2.2.2.2.2.2.2.2.2.2.2.2.2.1 b hb
      exact ⟨p, by simp [va_up, hba]; exact e1, e2⟩),
  (fun b hb => by
    by_cases hba : b = a
    · subst hba
      exact absurd (ha.2.symm.trans hb.2) (by decide)
    · obtain ⟨p, e1, e2⟩ := h.2.2.2.2.2.2.2.2.2.2.2.2.2.2.2.2.2.2.2.2.2.2.1 b hb
      exact ⟨p, by simp [va_up, hba]; exact e1, e2⟩),
  (fun b hb => by
    by_cases hba : b = a
    · subst hba
      exact absurd (ha.2.symm.trans hb.2) (by decide)
    · obtain ⟨p, e1, e2⟩ := h.2.2.2.2.2.2.2.2.2.2.2.2.2.2.2.2.2.2.2.2.2.2.2.1 b hb
      exact ⟨p, by simp [va_up, hba]; exact e1, e2⟩),
  (fun b hb => by
    by_cases hba : b = a
    · subst hba
      exact absurd (ha.2.symm.trans hb.2) (by decide)
    · obtain ⟨p, e1, e2⟩ := h.2.2.2.2.2.2.2.2.2.2.2.2.2.2.2.2.2.2.2.2.2.2.2.2.1 b hb
      exact ⟨p, by simp [va_up, hba]; exact e1, e2⟩),
  (fun b hb => by
    by_cases hba : b = a
    · subst hba
      exact absurd (ha.2.symm.trans hb.2) (by decide)
    · obtain ⟨p, e1, e2⟩ := h.2.2.2.2.2.2.2.2.2.2.2.2.2.2.2.2.2.2.2.2.2.2.2.2.2.1 b hb
      exact ⟨p, by simp [va_up, hba]; exact e1, e2⟩),
  (fun b hb => by
    by_cases hba : b = a
    · subst hba
      exact absurd (ha.2.symm.trans hb.2) (by decide)
    · obtain ⟨p, e1, e2⟩ := h.2.2.2.2.2.2.2.2.2.2.2.2.2.2.2.2.2.2.2.2.2.2.2.2.2.2.1 b hb
      exact ⟨p, by simp [va_up, hba]; exact e1, e2⟩),
  (fun b hb => by
    by_cases hba : b = a
    · subst hba
      exact absurd (ha.2.symm.trans hb.2) (by decide)
    · obtain ⟨p, e1, e2⟩ := h.2.2.2.2.2.2.2.2.2.2.2.2.2.2.2.2.2.2.2.2.2.2.2.2.2.2.2.1 b hb
      exact ⟨p, by simp [va_up, hba]; exact e1, e2⟩),
  (fun b hb => by
    by_cases hba : b = a
    · subst hba
      exact absurd (ha.2.symm.trans hb.2) (by decide)
    · obtain ⟨p, e1, e2⟩ := h.2.2.2.2.2.2.2.2.2.2.2.2.2.2.2.2.2.2.2.2.2.2.2.2.2.2.2.2.1 b hb
      exact ⟨p, by simp [va_up, hba]; exact e1, e2⟩),
  (fun b hb => by
    by_cases hba : b = a
    · subst hba
      exact absurd (ha.2.symm.trans hb.2) (by decide)
    · obtain ⟨p, e1, e2⟩ := h.2.2.2.2.2.2.2.2.2.2.2.2.2.2.2.2.2.2.2.2.2.2.2.2.2.2.2.2.2.1 b hb
      exact ⟨p, by simp [va_up, hba]; exact e1, e2⟩),
  (fun b hb => by
    by_cases hba : b = a
    · subst hba
      exact absurd (ha.2.symm.trans hb.2) (by decide)
    · obtain ⟨p, e1, e2⟩ := h.2.2.2.2.2.2.2.2.2.2.2.2.2.2.2.2.2.2.2.2.2.2.2.2.2.2.2.2.2.2.1 b hb
      exact ⟨p, by simp [va_up, hba]; exact e1, e2⟩),
  (fun b hb => by
    by_cases hba : b = a
    · subst hba
      exact absurd (ha.2.symm.trans hb.2) (by decide)
    · obtain ⟨p, e1, e2⟩ := h.2.2.2.2.2.2.2.2.2.2.2.2.2.2.2.2.2.2.2.2.2.2.2.2.2.2.2.2.2.2.2.1 b hb
      exact ⟨p, by simp [va_up, hba]; exact e1, e2⟩),
  (fun b hb => by
    by_cases hba : b = a
    · subst hba
      exact absurd (ha.2.symm.trans hb.2) (by decide)
    · obtain ⟨p, e1, e2⟩ := h.2.2.2.2.2.2.2.2.2.2.2.2.2.2.2.2.2.2.2.2.2.2.2.2.2.2.2.2.2.2.2.2.1 b hb
      exact ⟨p, by simp [va_up, hba]; exact e1, e2⟩),
  (fun b hb => by
    by_cases hba : b = a
    · subst hba
      exact absurd (ha.2.symm.trans hb.2) (by decide)
    · obtain ⟨p, e1, e2⟩ := h.2.2.2.2.2.2.2.2.2.2.2.2.2.2.2.2.2.2.2.2.2.2.2.2.2.2.2.2.2.2.2.2.2.1 b hb
      exact ⟨p, by simp [va_up, hba]; exact e1, e2⟩),
  (fun b hb => by
    by_cases hba : b = a
    · subst hba
      exact absurd (ha.2.symm.trans hb.2) (by decide)
    · obtain ⟨p, e1, e2⟩ := h.2.2.2.2.2.2.2.2.2.2.2.2.2.2.2.2.2.2.2.2.2.2.2.2.2.2.2.2.2.2.2.2.2.2.1 b hb
      exact ⟨p, by simp [va_up, hba]; exact e1, e2⟩),
  (fun b hb => by
    by_cases hba : b = a
    · subst hba
      exact absurd (ha.2.symm.trans hb.2) (by decide)
    · obtain ⟨p, e1, e2⟩ := h.2.2.2.2.2.2.2.2.2.2.2.2.2.2.2.2.2.2.2.2.2.2.2.2.2.2.2.2.2.2.2.2.2.2.2.1 b hb
      exact ⟨p, by simp [va_up, hba]; exact e1, e2⟩),
  (fun b hb => by
    by_cases hba : b = a
    · subst hba
      exact absurd (ha.2.symm.trans hb.2) (by decide)
    · obtain ⟨p, e1, e2⟩ := h.2.2.2.2.2.2.2.2.2.2.2.2.2.2.2.2.2.2.2.2.2.2.2.2.2.2.2.2.2.2.2.2.2.2.2.2.1 b hb
      exact ⟨p, by simp [va_up, hba]; exact e1, e2⟩),
  (fun b hb => by
    by_cases hba : b = a
    · subst hba
      exact absurd (ha.2.symm.trans hb.2) (by decide)
    · obtain ⟨p, e1, e2⟩ := h.2.2.2.2.2.2.2.2.2.2.2.2.2.2.2.2.2.2.2.2.2.2.2.2.2.2.2.2.2.2.2.2.2.2.2.2.2.1 b hb
      exact ⟨p, by simp [va_up, hba]; exact e1, e2⟩),
  (fun b hb => by
    by_cases hba : b = a
    · subst hba
      exact absurd (ha.2.symm.trans hb.2) (by decide)
    · obtain ⟨p, e1, e2⟩ := h.2.2.2.2.2.2.2.2.2.2.2.2.2.2.2.2.2.2.2.2.2.2.2.2.2.2.2.2.2.2.2.2.2.2.2.2.2.2.1 b hb
      exact ⟨p, by simp [va_up, hba]; exact e1, e2⟩),
  (fun b hb => by
    by_cases hba : b = a
    · subst hba
      exact absurd (ha.2.symm.trans hb.2) (by decide)
    · obtain ⟨p, e1, e2⟩ := h.2.2.2.2.2.2.2.2.2.2.2.2.2.2.2.2.2.2.2.2.2.2.2.2.2.2.2.2.2.2.2.2.2.2.2.2.2.2.2.1 b hb
      exact ⟨p, by simp [va_up, hba]; exact e1, e2⟩),
  (fun b hb => by
    by_cases hba : b = a
    · subst hba
      exact absurd (ha.2.symm.trans hb.2) (by decide)
    · obtain ⟨p, e1, e2⟩ := h.2.2.2.2.2.2.2.2.2.2.2.2.2.2.2.2.2.2.2.2.2.2.2.2.2.2.2.2.2.2.2.2.2.2.2.2.2.2.2.2.1 b hb
      exact ⟨p, by simp [va_up, hba]; exact e1, e2⟩),
  (fun b hb => by
    by_cases hba : b = a
    · subst hba
      exact absurd (ha.2.symm.trans hb.2) (by decide)
    · obtain ⟨p, e1, e2⟩ := h.2.2.2.2.2.2.2.2.2.2.2.2.2.2.2.2.2.2.2.2.2.2.2.2.2.2.2.2.2.2.2.2.2.2.2.2.2.2.2.2.2.1 b hb
      exact ⟨p, by simp [va_up, hba]; exact e1, e2⟩),
  (fun b hb => by
    by_cases hba : b = a
    · subst hba
      exact absurd (ha.2.symm.trans hb.2) (by decide)
    · obtain ⟨p, e1, e2⟩ := h.2.2.2.2.2.2.2.2.2.2.2.2.2.2.2.2.2.2.2.2.2.2.2.2.2.2.2.2.2.2.2.2.2.2.2.2.2.2.2.2.2.2.1 b hb
      exact ⟨p, by simp [va_up, hba]; exact e1, e2⟩),
  (fun b hb => by
    by_cases hba : b = a
    · subst hba
      exact absurd (ha.2.symm.trans hb.2) (by decide)
    · obtain ⟨p, e1, e2⟩ := h.2.2.2.2.2.2.2.2.2.2.2.2.2.2.2.2.2.2.2.2.2.2.2.2.2.2.2.2.2.2.2.2.2.2.2.2.2.2.2.2.2.2.2.1 b hb
      exact ⟨p, by simp [va_up, hba]; exact e1, e2⟩),
  (fun b hb => by
    by_cases hba : b = a
    · subst hba
      exact absurd (ha.2.symm.trans hb.2) (by decide)
    · obtain ⟨p, e1, e2⟩ := h.2.2.2.2.2.2.2.2.2.2.2.2.2.2.2.2.2.2.2.2.2.2.2.2.2.2.2.2.2.2.2.2.2.2.2.2.2.2.2.2.2.2.2.2.1 b hb
      exact ⟨p, by simp [va_up, hba]; exact e1, e2⟩),
  (fun b hb => by
    by_cases hba : b = a
    · subst hba
      exact absurd (ha.2.symm.trans hb.2) (by decide)
    · obtain ⟨p, e1, e2⟩ := h.2.2.2.2.2.2.2.2.2.2.2.2.2.2.2.2.2.2.2.2.2.2.2.2.2.2.2.2.2.2.2.2.2.2.2.2.2.2.2.2.2.2.2.2.2.1 b hb
      exact ⟨p, by simp [va_up, hba]; exact e1, e2⟩),
  (fun b hb => by
    by_cases hba : b = a
    · subst hba
      exact absurd (ha.2.symm.trans hb.2) (by decide)
    · obtain ⟨p, e1, e2⟩ := h.2.2.2.2.2.2.2.2.2.2.2.2.2.2.2.2.2.2.2.2.2.2.2.2.2.2.2.2.2.2.2.2.2.2.2.2.2.2.2.2.2.2.2.2.2.2.1 b hb
      exact ⟨p, by simp [va_up, hba]; exact e1, e2⟩),
  (fun b hb => by
    by_cases hba : b = a
    · subst hba
      exact ⟨q, by simp [va_up], hq⟩
    · obtain ⟨p, e1, e2⟩ := h.2.2.2.2.2.2.2.2.2.2.2.2.2.2.2.2.2.2.2.2.2.2.2.2.2.2.2.2.2.2.2.2.2.2.2.2.2.2.2.2.2.2.2.2.2.2.2.1 b hb
      exact ⟨p, by simp [va_up, hba]; exact e1, e2⟩),
  (fun b hb => by
    by_cases hba : b = a
    · subst hba
      exact absurd (ha.2.symm.trans hb.2) (by decide)
    · obtain ⟨p, e1, e2⟩ := h.2.2.2.2.2.2.2.2.2.2.2.2.2.2.2.2.2.2.2.2.2.2.2.2.2.2.2.2.2.2.2.2.2.2.2.2.2.2.2.2.2.2.2.2.2.2.2.2.1 b hb
      exact ⟨p, by simp [va_up, hba]; exact e1, e2⟩),
  (fun b hb => by
    by_cases hba : b = a
    · subst hba
      exact absurd (ha.2.symm.trans hb.2) (by decide)
    · obtain ⟨p, e1, e2⟩ := h.2.2.2.2.2.2.2.2.2.2.2.2.2.2.2.2.2.2.2.2.2.2.2.2.2.2.2.2.2.2.2.2.2.2.2.2.2.2.2.2.2.2.2.2.2.2.2.2.2.1 b hb
      exact ⟨p, by simp [va_up, hba]; exact e1, e2⟩),
  (fun b hb => by
    by_cases hba : b = a
    · subst hba
      exact absurd (ha.2.symm.trans hb.2) (by decide)
    · obtain ⟨p, e1, e2⟩ := h.2.2.2.2.2.2.2.2.2.2.2.2.2.2.2.2.2.2.2.2.2.2.2.2.2.2.2.2.2.2.2.2.2.2.2.2.2.2.2.2.2.2.2.2.2.2.2.2.2.2.1 b hb
      exact ⟨p, by simp [va_up, hba]; exact e1, e2⟩),
  (fun b hb => by
    by_cases hba : b = a
    · subst hba
      exact absurd (ha.2.symm.trans hb.2) (by decide)
    · obtain ⟨p, e1, e2⟩ := h.2.2.2.2.2.2.2.2.2.2.2.2.2.2.2.2.2.2.2.2.2.2.2.2.2.2.2.2.2.2.2.2.2.2.2.2.2.2.2.2.2.2.2.2.2.2.2.2.2.2.2.1 b hb
      exact ⟨p, by simp [va_up, hba]; exact e1, e2⟩),
  (fun b hb => by
    by_cases hba : b = a
    · subst hba
      exact absurd (ha.2.symm.trans hb.2) (by decide)
    · obtain ⟨p, e1, e2⟩ := h.2.2.2.2.2.2.2.2.2.2.2.2.2.2.2.2.2.2.2.2.2.2.2.2.2.2.2.2.2.2.2.2.2.2.2.2.2.2.2.2.2.2.2.2.2.2.2.2.2.2.2.2.1 b hb
      exact ⟨p, by simp [va_up, hba]; exact e1, e2⟩),
  (fun b hb => by
    by_cases hba : b = a
    · subst hba
      exact absurd (ha.2.symm.trans hb.2) (by decide)
    · obtain ⟨p, e1, e2⟩ := h.2.2.2.2.2.2.2.2.2.2.2.2.2.2.2.2.2.2.2.2.2.2.2.2.2.2.2.2.2.2.2.2.2.2.2.2.2.2.2.2.2.2.2.2.2.2.2.2.2.2.2.2.2.1 b hb
      exact ⟨p, by simp [va_up, hba]; exact e1, e2⟩),
  (fun b hb => by
    by_cases hba : b = a
    · subst hba
      exact absurd (ha.2.symm.trans hb.2) (by decide)
    · obtain ⟨p, e1, e2⟩ := h.2.2.2.2.2.2.2.2.2.2.2.2.2.2.2.2.2.2.2.2.2.2.2.2.2.2.2.2.2.2.2.2.2.2.2.2.2.2.2.2.2.2.2.2.2.2.2.2.2.2.2.2.2.2.1 b hb
      exact ⟨p, by simp [va_up, hba]; exact e1, e2⟩),
  (fun b hb => by
    by_cases hba : b = a
    · subst hba
      exact absurd (ha.2.symm.trans hb.2) (by decide)
    · obtain ⟨p, e1, e2⟩ := h.2.2.2.2.2.2.2.2.2.2.2.2.2.2.2.2.2.2.2.2.2.2.2.2.2.2.2.2.2.2.2.2.2.2.2.2.2.2.2.2.2.2.2.2.2.2.2.2.2.2.2.2.2.2.2.1 b hb
      exact ⟨p, by simp [va_up, hba]; exact e1, e2⟩),
  (fun b hb => by
    by_cases hba : b = a
    · subst hba
      exact absurd (ha.2.symm.trans hb.2) (by decide)
    · obtain ⟨p, e1, e2⟩ := h.2.2.2.2.2.2.2.2.2.2.2.2.2.2.2.2.2.2.2.2.2.2.2.2.2.2.2.2.2.2.2.2.2.2.2.2.2.2.2.2.2.2.2.2.2.2.2.2.2.2.2.2.2.2.2.2.1 b hb
      exact ⟨p, by simp [va_up, hba]; exact e1, e2⟩),
  (fun b hb => by
    by_cases hba : b = a
    · subst hba
      exact absurd (ha.2.symm.trans hb.2) (by decide)
    · obtain ⟨p, e1, e2⟩ := h.2.2.2.2.2.2.2.2.2.2.2.2.2.2.2.2.2.2.2.2.2.2.2.2.2.2.2.2.2.2.2.2.2.2.2.2.2.2.2.2.2.2.2.2.2.2.2.2.2.2.2.2.2.2.2.2.2.1 b hb
      exact ⟨p, by simp [va_up, hba]; exact e1, e2⟩),
  (fun b hb => by
    by_cases hba : b = a
    · subst hba
      exact absurd (ha.2.symm.trans hb.2) (by decide)
    · obtain ⟨p, e1, e2⟩ := h.2.2.2.2.2.2.2.2.2.2.2.2.2.2.2.2.2.2.2.2.2.2.2.2.2.2.2.2.2.2.2.2.2.2.2.2.2.2.2.2.2.2.2.2.2.2.2.2.2.2.2.2.2.2.2.2.2.2.1 b hb
      exact ⟨p, by simp [va_up, hba]; exact e1, e2⟩),
  (fun b hb => by
    by_cases hba : b = a
    · subst hba
      exact absurd (ha.2.symm.trans hb.2) (by decide)
    · obtain ⟨p, e1, e2⟩ := h.2.2.2.2.2.2.2.2.2.2.2.2.2.2.2.2.2.2.2.2.2.2.2.2.2.2.2.2.2.2.2.2.2.2.2.2.2.2.2.2.2.2.2.2.2.2.2.2.2.2.2.2.2.2.2.2.2.2.2.1 b hb
      exact ⟨p, by simp [va_up, hba]; exact e1, e2⟩),
  (fun b hb => by
    by_cases hba : b = a
    · subst hba
      exact absurd (ha.2.symm.trans hb.2) (by decide)
    · obtain ⟨p, e1, e2⟩ := h.2.2.2.2.2.2.2.2.2.2.2.2.2.2.2.2.2.2.2.2.2.2.2.2.2.2.2.2.2.2.2.2.2.2.2.2.2.2.2.2.2.2.2.2.2.2.2.2.2.2.2.2.2.2.2.2.2.2.2.2.1 b hb
      exact ⟨p, by simp [va_up, hba]; exact e1, e2⟩),
  (fun b hb => by
    by_cases hba : b = a
    · subst hba
      exact absurd (ha.2.symm.trans hb.2) (by decide)
    · obtain ⟨p, e1, e2⟩ := h.2.2.2.2.2.2.2.2.2.2.2.2.2.2.2.2.2.2.2.2.2.2.2.2.2.2.2.2.2.2.2.2.2.2.2.2.2.2.2.2.2.2.2.2.2.2.2.2.2.2.2.2.2.2.2.2.2.2.2.2.2.1 b hb
      exact ⟨p, by simp [va_up, hba]; exact e1, e2⟩),
  (fun b hb => by
    by_cases hba : b = a
    · subst hba
      exact absurd (ha.2.symm.trans hb.2) (by decide)
    · obtain ⟨p, e1, e2⟩ := h.2.2.2.2.2.2.2.2.2.2.2.2.2.2.2.2.2.2.2.2.2.2.2.2.2.2.2.2.2.2.2.2.2.2.2.2.2.2.2.2.2.2.2.2.2.2.2.2.2.2.2.2.2.2.2.2.2.2.2.2.2.2.1 b hb
      exact ⟨p, by simp [va_up, hba]; exact e1, e2⟩),
  (fun b hb => by
    by_cases hba : b = a
    · subst hba
      exact absurd (ha.2.symm.trans hb.2) (by decide)
    · obtain ⟨p, e1, e2⟩ := h.2.2.2.2.2.2.2.2.2.2.2.2.2.2.2.2.2.2.2.2.2.2.2.2.2.2.2.2.2.2.2.2.2.2.2.2.2.2.2.2.2.2.2.2.2.2.2.2.2.2.2.2.2.2.2.2.2.2.2.2.2.2.2.1 b hb
      exact ⟨p, by simp [va_up, hba]; exact e1, e2⟩),
  (fun b hb => by
    by_cases hba : b = a
    · subst hba
      exact absurd (ha.2.symm.trans hb.2) (by decide)
    · obtain ⟨p, e1, e2⟩ := h.2.2.2.2.2.2.2.2.2.2.2.2.2.2.2.2.2.2.2.2.2.2.2.2.2.2.2.2.2.2.2.2.2.2.2.2.2.2.2.2.2.2.2.2.2.2.2.2.2.2.2.2.2.2.2.2.2.2.2.2.2.2.2.2.1 b hb
      exact ⟨p, by simp [va_up, hba]; exact e1, e2⟩),
  (fun b hb => by
    by_cases hba : b = a
    · subst hba
      exact absurd (ha.2.symm.trans hb.2) (by decide)
    · obtain ⟨p, e1, e2⟩ := h.2.2.2.2.2.2.2.2.2.2.2.2.2.2.2.2.2.2.2.2.2.2.2.2.2.2.2.2.2.2.2.2.2.2.2.2.2.2.2.2.2.2.2.2.2.2.2.2.2.2.2.2.2.2.2.2.2.2.2.2.2.2.2.2.2.1 b hb
      exact ⟨p, by simp [va_up, hba]; exact e1, e2⟩),
  (fun b hb => by
    by_cases hba : b = a
    · subst hba
      exact absurd (ha.2.symm.trans hb.2) (by decide)
    · obtain ⟨p, e1, e2⟩ := h.2.2.2.2.2.2.2.2.2.2.2.2.2.2.2.2.2.2.2.2.2.2.2.2.2.2.2.2.2.2.2.2.2.2.2.2.2.2.2.2.2.2.2.2.2.2.2.2.2.2.2.2.2.2.2.2.2.2.2.2.2.2.2.2.2.2.1 b hb
      exact ⟨p, by simp [va_up, hba]; exact e1, e2⟩),
  (fun b hb => by
    by_cases hba : b = a
    · subst hba
      exact absurd (ha.2.symm.trans hb.2) (by decide)
    · obtain ⟨p, e1, e2⟩ := h.2.2.2.2.2.2.2.2.2.2.2.2.2.2.2.2.2.2.2.2.2.2.2.2.2.2.2.2.2.2.2.2.2.2.2.2.2.2.2.2.2.2.2.2.2.2.2.2.2.2.2.2.2.2.2.2.2.2.2.2.2.2.2.2.2.2.2.1 b hb
      exact ⟨p, by simp [va_up, hba]; exact e1, e2⟩),
  (fun b hb => by
    by_cases hba : b = a
    · subst hba
      exact absurd (ha.2.symm.trans hb.2) (by decide)
    · obtain ⟨p, e1, e2⟩ := h.2.2.2.2.2.2.2.2.2.2.2.2.2.2.2.2.2.2.2.2.2.2.2.2.2.2.2.2.2.2.2.2.2.2.2.2.2.2.2.2.2.2.2.2.2.2.2.2.2.2.2.2.2.2.2.2.2.2.2.2.2.2.2.2.2.2.2.2.1 b hb
      exact ⟨p, by simp [va_up, hba]; exact e1, e2⟩),
  h.2.2.2.2.2.2.2.2.2.2.2.2.2.2.2.2.2.2.2.2.2.2.2.2.2.2.2.2.2.2.2.2.2.2.2.2.2.2.2.2.2.2.2.2.2.2.2.2.2.2.2.2.2.2.2.2.2.2.2.2.2.2.2.2.2.2.2.2.2.1,
  h.2.2.2.2.2.2.2.2.2.2.2.2.2.2.2.2.2.2.2.2.2.2.2.2.2.2.2.2.2.2.2.2.2.2.2.2.2.2.2.2.2.2.2.2.2.2.2.2.2.2.2.2.2.2.2.2.2.2.2.2.2.2.2.2.2.2.2.2.2.2.1,
  h.2.2.2.2.2.2.2.2.2.2.2.2.2.2.2.2.2.2.2.2.2.2.2.2.2.2.2.2.2.2.2.2.2.2.2.2.2.2.2.2.2.2.2.2.2.2.2.2.2.2.2.2.2.2.2.2.2.2.2.2.2.2.2.2.2.2.2.2.2.2.2.1,
  h.2.2.2.2.2.2.2.2.2.2.2.2.2.2.2.2.2.2.2.2.2.2.2.2.2.2.2.2.2.2.2.2.2.2.2.2.2.2.2.2.2.2.2.2.2.2.2.2.2.2.2.2.2.2.2.2.2.2.2.2.2.2.2.2.2.2.2.2.2.2.2.2⟩)
theorem wkWF_Witnessworks_errors {S : wPS} {a q : Nat} (hW : wkWF S) (ha : wkIs S a 11) (hq : wkIs S q 13) : wkWF (wu_Witnessworks_errors S a (some q)) := by
  have h : wkWFr S.L S.K S.fA S.len S.rA := hW
  exact (show wkWFr S.L S.K (va_up S.fA a (va_up (S.fA a) 16 (some q))) S.len S.rA from ⟨(fun b hb => by
    by_cases hba : b = a
    · subst hba
      exact absurd (ha.2.symm.trans hb.2) (by decide)
    · obtain ⟨p, e1, e2⟩ := h.1 b hb
      exact ⟨p, by simp [va_up, hba]; exact e1, e2⟩),
  (fun b hb => by
    by_cases hba : b = a
    · subst hba
      exact absurd (ha.2.symm.trans hb.2) (by decide)
    · obtain ⟨p, e1, e2⟩ := h.2.1 b hb
      exact ⟨p, by simp [va_up, hba]; exact e1, e2⟩),
  (fun b hb => by
    by_cases hba : b = a
    · subst hba
      exact absurd (ha.2.symm.trans hb.2) (by decide)
    · obtain ⟨p, e1, e2⟩ := h.2.2.1 b hb
      exact ⟨p, by simp [va_up, hba]; exact e1, e2⟩),
  (fun b hb => by
    by_cases hba : b = a
    · subst hba
      exact absurd (ha.2.symm.trans hb.2) (by decide)
    · obtain ⟨p, e1, e2⟩ := h.2.2.2.1 b hb
      exact ⟨p, by simp [va_up, hba]; exact e1, e2⟩),
  (fun b hb => by
    by_cases hba : b = a
    · subst hba
      exact absurd (ha.2.symm.trans hb.2) (by decide)
    · obtain ⟨p, e1, e2⟩ := h.2.2.2.2.1 b hb
      exact ⟨p, by simp [va_up, hba]; exact e1, e2⟩),
  (fun b hb => by
    by_cases hba : b = a
    · subst hba
      exact absurd (ha.2.symm.trans hb.2) (by decide)
    · obtain ⟨p, e1, e2⟩ := h.2.2.2.2.2.1 b hb
      exact ⟨p, by simp [va_up, hba]; exact e1, e2⟩),
  (fun b hb => by
    by_cases hba : b = a
    · subst hba
      exact absurd (ha.2.symm.trans hb.2) (by decide)
    · obtain ⟨p, e1, e2⟩ := h.2.2.2.2.2.2.1 b hb
      exact ⟨p, by simp [va_up, hba]; exact e1, e2⟩),
  (fun b hb => by
    by_cases hba : b = a
    · subst hba
      exact absurd (ha.2.symm.trans hb.2) (by decide)
    · obtain ⟨p, e1, e2⟩ := h.2.2.2.2.2.2.2.1 b hb
      exact ⟨p, by simp [va_up, hba]; exact e1, e2⟩),
  (fun b hb => by
    by_cases hba : b = a
    · subst hba
      exact absurd (ha.2.symm.trans hb.2) (by decide)
    · obtain ⟨p, e1, e2⟩ := h.2.2.2.2.2.2.2.2.1 b hb
      exact ⟨p, by simp [va_up, hba]; exact e1, e2⟩),
  (fun b hb => by
    by_cases hba : b = a
    · subst hba
      exact absurd (ha.2.symm.trans hb.2) (by decide)
    · obtain ⟨p, e1, e2⟩ := h.2.2.2.2.2.2.2.2.2.1 b hb
      exact ⟨p, by simp [va_up, hba]; exact e1, e2⟩),
  (fun b hb => by
    by_cases hba : b = a
    · subst hba
      exact absurd (ha.2.symm.trans hb.2) (by decide)
    · obtain ⟨p, e1, e2⟩ := h.2.2.2.2.2.2.2.2.2.2.1 b hb
      exact ⟨p, by simp [va_up, hba]; exact e1, e2⟩),
  (fun b hb => by
    by_cases hba : b = a
    · subst hba
      exact absurd (ha.2.symm.trans hb.2) (by decide)
    · obtain ⟨p, e1, e2⟩ := h.2.2.2.2.2.2.2.2.2.2.2.1 b hb
      exact ⟨p, by simp [va_up, hba]; exact e1, e2⟩),
  (fun b hb => by
    by_cases hba : b = a
    · subst hba
      exact absurd (ha.2.symm.trans hb.2) (by decide)
    · obtain ⟨p, e1, e2⟩ := h.2.2.2.2.2.2.2.2.2.2.2.2.1 b hb
      exact ⟨p, by simp [va_up, hba]; exact e1, e2⟩),
  (fun b hb => by
    by_cases hba : b = a
    · subst hba
      exact absurd (ha.2.symm.trans hb.2) (by decide)
    · obtain ⟨p, e1, e2⟩ := h.2.2.2.2.2.2.2.2.2.2.2.2.2.1 b hb
      exact ⟨p, by simp [va_up, hba]; exact e1, e2⟩),
  (fun b hb => by
    by_cases hba : b = a
    · subst hba
      exact absurd (ha.2.symm.trans hb.2) (by decide)
    · obtain ⟨p, e1, e2⟩ := h.2.2.2.2.2.2.2.2.2.2.2.2.2.2.1 b hb
      exact ⟨p, by simp [va_up, hba]; exact e1, e2⟩),
  (fun b hb => by
    by_cases hba : b = a
    · subst hba
      exact absurd (ha.2.symm.trans hb.2) (by decide)
    · obtain ⟨p, e1, e2⟩ := h.2.2.2.2.2.2.2.2.2.2.2.2.2.2.2.1 b hb
      exact ⟨p, by simp [va_up, hba]; exact e1, e2⟩),
  (fun b hb => by
    by_cases hba : b = a
    · subst hba
      exact absurd (ha.2.symm.trans hb.2) (by decide)
    · obtain ⟨p, e1, e2⟩ := h.2.2.2.2.2.2.2.2.2.2.2.2.2.2.2.2.1 b hb
      exact ⟨p, by simp [va_up, hba]; exact e1, e2⟩),
  (fun b hb => by
    by_cases hba : b = a
    · subst hba
      exact absurd (ha.2.symm.trans hb.2) (by decide)
    · obtain ⟨p, e1, e2⟩ := h.2.2.2.2.2.2.2.2.2.2.2.2.2.2.2.2.2.1 b hb
      exact ⟨p, by simp [va_up, hba]; exact e1, e2⟩),
  (fun b hb => by
    by_cases hba : b = a
    · subst hba
      exact absurd (ha.2.symm.trans hb.2) (by decide)
    · obtain ⟨p, e1, e2⟩ := h.2.2.2.2.2.2.2.2.2.2.2.2.2.2.2.2.2.2.1 b hb
      exact ⟨p, by simp [va_up, hba]; exact e1, e2⟩),
  (fun b hb => by
    by_cases hba : b = a
    · subst hba
      exact absurd (ha.2.symm.trans hb.2) (by decide)
    · obtain ⟨p, e1, e2⟩ := h.2.2.2.2.2.2.2.2.2.2.2.2.2.2.2.2.2.2.2.1 b hb
      exact ⟨p, by simp [va_up, hba]; exact e1, e2⟩),
  (fun b hb => by
    by_cases hba : b = a
    · subst hba
      exact absurd (ha.2.symm.trans hb.2) (by decide)
    · obtain ⟨p, e1, e2⟩ := h.2.2.2.2.2.2.2.2.2.2.2.2.2.2.2.2.2.2.2.2.1 b hb
      exact ⟨p, by simp [va_up, hba]; exact e1, e2⟩),
  (fun b hb => by
    by_cases hba : b = a
    · subst hba
      exact absurd (ha.2.symm.trans hb.2) (by decide)
    · obtain ⟨p, e1, e2⟩ := h.2.2.2.2.2.2.2.2.2.2.2.2.2.2.2.2.2.2.2.2.2.1 b hb
      exact ⟨p, by simp [va_up, hba]; exact e1, e2⟩),
  (fun b hb => by
    by_cases hba : b = a
    · subst hba
      exact absurd (ha.2.symm.trans hb.2) (by decide)
    · obtain ⟨p, e1, e2⟩ := h.2.2.2.2.2.2.2.2.2.2.2.2.2.2.2.2.2.2.2.2.2.2.1 b hb
      exact ⟨p, by simp [va_up, hba]; exact e1, e2⟩),
  (fun b hb => by
    by_cases hba : b = a
    · subst hba
      exact absurd (ha.2.symm.trans hb.2) (by decide)
    · obtain ⟨p, e1, e2⟩ := h.2.2.2.2.2.2.2.2.2.2.2.2.2.2.2.2.2.2.2.2.2.2.2.1 b hb
      exact ⟨p, by simp [va_up, hba]; exact e1, e2⟩),
  (fun b hb => by
    by_cases hba : b = a
    · subst hba
      exact absurd (ha.2.symm.trans hb.2) (by decide)
    · obtain ⟨p, e1, e2⟩ := h.2.2.2.2.2.2.2.2.2.2.2.2.2.2.2.2.2.2.2.2.2.2.2.2.1 b hb
      exact ⟨p, by simp [va_up, hba]; exact e1, e2⟩),
  (fun b hb => by
    by_cases hba : b = a
    · subst hba
      exact absurd (ha.2.symm.trans hb.2) (by decide)
    · obtain ⟨p, e1, e2⟩ := h.2.2.2.2.2.2.2.2.2.2.2.2.2.2.2.2.2.2.2.2.2.2.2.2.2.1 b hb
      exact ⟨p, by simp [va_up, hba]; exact e1, e2⟩),
  (fun b hb => by
    by_cases hba : b = a
    · subst hba
      exact absurd (ha.2.symm.trans hb.2) (by decide)
    · obtain ⟨p, e1, e2⟩ := h.2.2.2.2.2.2.2.2.2.2.2.2.2.2.2.2.2.2.2.2.2.2.2.2.2.2.1 b hb
      exact ⟨p, by simp [va_up, hba]; exact e1, e2⟩),
  (fun b hb => by
    by_cases hba : b = a
    · subst hba
      exact absurd (ha.2.symm.trans hb.2) (by decide)
    · obtain ⟨p, e1, e2⟩ := h.2.2.2.2.2.2.2.2.2.2.2.2.2.2.2.2.2.2.2.2.2.2.2.2.2.2.2.1 b hb
      exact ⟨p, by simp [va_up, hba]; exact e1, e2⟩),
  (fun b hb => by
    by_cases hba : b = a
    · subst hba
      exact absurd (ha.2.symm.trans hb.2) (by decide)
    · obtain ⟨p, e1, e2⟩ := h.2.2.2.2.2.2.2.2.2.2.2.2.2.2.2.2.2.2.2.2.2.2.2.2.2.2.2.2.1 b hb
      exact ⟨p, by simp [va_up, hba]; exact e1, e2⟩),
  (fun b hb => by
    by_cases hba : b = a
    · subst hba
      exact absurd (ha.2.symm.trans hb.2) (by decide)
    · obtain ⟨p, e1, e2⟩ := h.2.2.2.2.2.2.2.2.2.2.2.2.2.2.2.2.2.2.2.2.2.2.2.2.2.2.2.2.2.1 b hb
      exact ⟨p, by simp [va_up, hba]; exact e1, e2⟩),
  (fun b hb => by
    by_cases hba : b = a
    · subst hba
      exact absurd (ha.2.symm.trans hb.2) (by decide)
    · obtain ⟨p, e1, e2⟩ := h.2.2.2.2.2.2.2.2.2.2.2.2.2.2.2.2.2.2.2.2.2.2.2.2.2.2.2.2.2.2.1 b hb
      exact ⟨p, by simp [va_up, hba]; exact e1, e2⟩),
  (fun b hb => by
    by_cases hba : b = a
    · subst hba
      exact absurd (ha.2.symm.trans hb.2) (by decide)
    · obtain ⟨p, e1, e2⟩ := h.2.2.2.2.2.2.2.2.2.2.2.2.2.2.2.2.2.2.2.2.2.2.2.2.2.2.2.2.2.2.2.1 b hb
      exact ⟨p, by simp [va_up, hba]; exact e1, e2⟩),
  (fun b hb => by
    by_cases hba : b = a
    · subst hba
      exact absurd (ha.2.symm.trans hb.2) (by decide)
    · obtain ⟨p, e1, e2⟩ := h.2.2.2.2.2.2.2.2.2.2.2.2.2.2.2.2.2.2.2.2.2.2.2.2.2.2.2.2.2.2.2.2.1 b hb
      exact ⟨p, by simp [va_up, hba]; exact e1, e2⟩),
  (fun b hb => by
    by_cases hba : b = a
    · subst hba
      exact absurd (ha.2.symm.trans hb.2) (by decide)
    · obtain ⟨p, e1, e2⟩ := h.2.2.2.2.2.2.2.2.2.2.2.2.2.2.2.2.2.2.2.2.2.2.2.2.2.2.2.2.2.2.2.2.2.1 b hb
      exact ⟨p, by simp [va_up, hba]; exact e1, e2⟩),
  (fun b hb => by
    by_cases hba : b = a
    · subst hba
      exact absurd (ha.2.symm.trans hb.2) (by decide)
    · obtain ⟨p, e1, e2⟩ := h.2.2.2.2.2.2.2.2.2.2.2.2.2.2.2.2.2.2.2.2.2.2.2.2.2.2.2.2.2.2.2.2.2.2.1 b hb
      exact ⟨p, by simp [va_up, hba]; exact e1, e2⟩),
  (fun b hb => by
    by_cases hba : b = a
    · subst hba
      exact absurd (ha.2.symm.trans hb.2) (by decide)
    · obtain ⟨p, e1, e2⟩ := h.2.2.2.2.2.2.2.2.2.2.2.2.2.2.2.2.2.2.2.2.2.2.2.2.2.2.2.2.2.2.2.2.2.2.2.1 b hb
      exact ⟨p, by simp [va_up, hba]; exact e1, e2⟩),
  (fun b hb => by
    by_cases hba : b = a
    · subst hba
      exact absurd (ha.2.symm.trans hb.2) (by decide)
    · obtain ⟨p, e1, e2⟩ := h.2.2.2.2.2.2.2.2.2.2.2.2.2.2.2.2.2.2.2.2.2.2.2.2.2.2.2.2.2.2.2.2.2.2.2.2.1 b hb
      exact ⟨p, by simp [va_up, hba]; exact e1, e2⟩),
  (fun b hb => by
    by_cases hba : b = a
    · subst hba
      exact absurd (ha.2.symm.trans hb.2) (by decide)
    · obtain ⟨p, e1, e2⟩ := h.2.2.2.2.2.2.2.2.2.2.2.2.2.2.2.2.2.2.2.2.2.2.2.2.2.2.2.2.2.2.2.2.2.2.2.2.2.1 b hb
      exact ⟨p, by simp [va_up, hba]; exact e1, e2⟩),
  (fun b hb => by
    by_cases hba : b = a
    · subst hba
      exact absurd (ha.2.symm.trans hb.2) (by decide)
    · obtain ⟨p, e1, e2⟩ := h.2.2.2.2.2.2.2.2.2.2.2.2.2.2.2.2.2.2.2.2.2.2.2.2.2.2.2.2.2.2.2.2.2.2.2.2.2.2.1 b hb
      exact ⟨p, by simp [va_up, hba]; exact e1, e2⟩),
  (fun b hb => by
    by_cases hba : b = a
    · subst hba
      exact absurd (ha.2.symm.trans hb.2) (by decide)
    · obtain ⟨p, e1, e2⟩ := h.2.2.2.2.2.2.2.2.2.2.2.2.2.2.2.2.2.2.2.2.2.2.2.2.2.2.2.2.2.2.2.2.2.2.2.2.2.2.2.1 b hb
      exact ⟨p, by simp [va_up, hba]; exact e1, e2⟩),
  (fun b hb => by
    by_cases hba : b = a
    · subst hba
      exact absurd (ha.2.symm.trans hb.2) (by decide)
    · obtain ⟨p, e1, e2⟩ := h.2.2.2.2.2.2.2.2.2.2.2.2.2.2.2.2.2.2.2.2.2.2.2.2.2.2.2.2.2.2.2.2.2.2.2.2.2.2.2.2.1 b hb
      exact ⟨p, by simp [va_up, hba]; exact e1, e2⟩),
  (fun b hb => by
    by_cases hba : b = a
    · subst hba
      exact absurd (ha.2.symm.trans hb.2) (by decide)
    · obtain ⟨p, e1, e2⟩ := h.2.2.2.2.2.2.2.2.2.2.2.2.2.2.2.2.2.2.2.2.2.2.2.2.2.2.2.2.2.2.2.2.2.2.2.2.2.2.2.2.2.1 b hb
      exact ⟨p, by simp [va_up, hba]; exact e1, e2⟩),
  (fun b hb => by
    by_cases hba : b = a
    · subst hba
      exact absurd (ha.2.symm.trans hb.2) (by decide)
    · obtain ⟨p, e1, e2⟩ := h.2.2.2.2.2.2.2.2.2.2.2.2.2.2.2.2.2.2.2.2.2.2.2.2.2.2.2.2.2.2.2.2.2.2.2.2.2.2.2.2.2.2.1 b hb
      exact ⟨p, by simp [va_up, hba]; exact e1, e2⟩),
  (fun b hb => by
    by_cases hba : b = a
    · subst hba
      exact absurd (ha.2.symm.trans hb.2) (by decide)
    · obtain ⟨p, e1, e2⟩ := h.2.2.2.2.2.2.2.2.2.2.2.2.2.2.2.2.2.2.2.2.2.2.2.2.2.2.2.2.2.2.2.2.2.2.2.2.2.2.2.2.2.2.2.1 b hb
      exact ⟨p, by simp [va_up, hba]; exact e1, e2⟩),
  (fun b hb => by
    by_cases hba : b = a
    · subst hba
      exact absurd (ha.2.symm.trans hb.2) (by decide)
    · obtain ⟨p, e1, e2⟩ := h.2.2.2.2.2.2.2.2.2.2.2.2.2.2.2.2.2.2.2.2.2.2.2.2.2.2.2.2.2.2.2.2.2.2.2.2.2.2.2.2.2.2.2.2.1 b hb
      exact ⟨p, by simp [va_up, hba]; exact e1, e2⟩),
  (fun b hb => by
    by_cases hba : b = a
    · subst hba
      exact absurd (ha.2.symm.trans hb.2) (by decide)
    · obtain ⟨p, e1, e2⟩ := h.2.2.2.2.2.2.2.2.2.2.2.2.2.2.2.2.2.2.2.2.2.2.2.2.2.2.2.2.2.2.2.2.2.2.2.2.2.2.2.2.2.2.2.2.2.1 b hb
      exact ⟨p, by simp [va_up, hba]; exact e1, e2⟩),
  (fun b hb => by
    by_cases hba : b = a
    · subst hba
      exact absurd (ha.2.symm.trans hb.2) (by decide)
    · obtain ⟨p, e1, e2⟩ := h.2.2.2.2.2.2.2.2.2.2.2.2.2.2.2.2.2.2.2.2.2.2.2.2.2.2.2.2.2.2.2.2.2.2.2.2.2.2.2.2.2.2.2.2.2.2.1 b hb
      exact ⟨p, by simp [va_up, hba]; exact e1, e2⟩),
  (fun b hb => by
    by_cases hba : b = a
    · subst hba
      exact absurd (ha.2.symm.trans hb.2) (by decide)
    · obtain ⟨p, e1, e2⟩ := h.2.2.2.2.2.2.2.2.2.2.2.2.2.2.2.2.2.2.2.2.2.2.2.2.2.2.2.2.2.2.2.2.2.2.2.2.2.2.2.2.2.2.2.2.2.2.2.1 b hb
      exact ⟨p, by simp [va_up, hba]; exact e1, e2⟩),
  (fun b hb => by
    by_cases hba : b = a
    · subst hba
      exact absurd (ha.2.symm.trans hb.2) (by decide)
    · obtain ⟨p, e1, e2⟩ := h.2.2.2.2.2.2.2.2.2.2.2.2.2.2.2.2.2.2.2.2.2.2.2.2.2.2.2.2.2.2.2.2.2.2.2.2.2.2.2.2.2.2.2.2.2.2.2.2.1 b hb
      exact ⟨p, by simp [va_up, hba]; exact e1, e2⟩),
  (fun b hb => by
    by_cases hba : b = a
    · subst hba
      exact absurd (ha.2.symm.trans hb.2) (by decide)
    · obtain ⟨p, e1, e2⟩ := h.2.2.2.2.2.2.2.2.2.2.2.2.2.2.2.2.2.2.2.2.2.2.2.2.2.2.2.2.2.2.2.2.2.2.2.2.2.2.2.2.2.2.2.2.2.2.2.2.2.1 b hb
      exact ⟨p, by simp [va_up, hba]; exact e1, e2⟩),
  (fun b hb => by
    by_cases hba : b = a
    · subst hba
      exact absurd (ha.2.symm.trans hb.2) (by decide)
    · obtain ⟨p, e1, e2⟩ := h.2.2.2.2.2.2.2.2.2.2.2.2.2.2.2.2.2.2.2.2.2.2.2.2.2.2.2.2.2.2.2.2.2.2.2.2.2.2.2.2.2.2.2.2.2.2.2.2.2.2.1 b hb
      exact ⟨p, by simp [va_up, hba]; exact e1, e2⟩),
  (fun b hb => by
    by_cases hba : b = a
    · subst hba
      exact absurd (ha.2.symm.trans hb.2) (by decide)
    · obtain ⟨p, e1, e2⟩ := h.2.2.2.2.2.2.2.2.2.2.2.2.2.2.2.2.2.2.2.2.2.2.2.2.2.2.2.2.2.2.2.2.2.2.2.2.2.2.2.2.2.2.2.2.2.2.2.2.2.2.2.1 b hb
      exact ⟨p, by simp [va_up, hba]; exact e1, e2⟩),
  (fun b hb => by
    by_cases hba : b = a
    · subst hba
      exact absurd (ha.2.symm.trans hb.2) (by decide)
    · obtain ⟨p, e1, e2⟩ := h.2.2.2.2.2.2.2.2.2.2.2.2.2.2.2.2.2.2.2.2.2.2.2.2.2.2.2.2.2.2.2.2.2.2.2.2.2.2.2.2.2.2.2.2.2.2.2.2.2.2.2.2.1 b hb
      exact ⟨p, by simp [va_up, hba]; exact e1, e2⟩),
  (fun b hb => by
    by_cases hba : b = a
    · subst hba
      exact absurd (ha.2.symm.trans hb.2) (by decide)
    · obtain ⟨p, e1, e2⟩ := h.2.2.2.2.2.2.2.2.2.2.2.2.2.2.2.2.2.2.2.2.2.2.2.2.2.2.2.2.2.2.2.2.2.2.2.2.2.2.2.2.2.2.2.2.2.2.2.2.2.2.2.2.2.1 b hb
      exact ⟨p, by simp [va_up, hba]; exact e1, e2⟩),
  (fun b hb => by
    by_cases hba : b = a
    · subst hba
      exact absurd (ha.2.symm.trans hb.2) (by decide)
    · obtain ⟨p, e1, e2⟩ := h.2.2.2.2.2.2.2.2.2.2.2.2.2.2.2.2.2.2.2.2.2.2.2.2.2.2.2.2.2.2.2.2.2.2.2.2.2.2.2.2.2.2.2.2.2.2.2.2.2.2.2.2.2.2.1 b hb
      exact ⟨p, by simp [va_up, hba]; exact e1, e2⟩),
  (fun b hb => by
    by_cases hba : b = a
    · subst hba
      exact absurd (ha.2.symm.trans hb.2) (by decide)
    · obtain ⟨p, e1, e2⟩ := h.2.2.2.2.2.2.2.2.2.2.2.2.2.2.2.2.2.2.2.2.2.2.2.2.2.2.2.2.2.2.2.2.2.2.2.2.2.2.2.2.2.2.2.2.2.2.2.2.2.2.2.2.2.2.2.1 b hb
      exact ⟨p, by simp [va_up, hba]; exact e1, e2⟩),
  (fun b hb => by
    by_cases hba : b = a
    · subst hba
      exact absurd (ha.2.symm.trans hb.2) (by decide)
    · obtain ⟨p, e1, e2⟩ := h.2.2.2.2.2.2.2.2.2.2.2.2.2.2.2.2.2.2.2.2.2.2.2.2.2.2.2.2.2.2.2.2.2.2.2.2.2.2.2.2.2.2.2.2.2.2.2.2.2.2.2.2.2.2.2.2.1 b hb
      exact ⟨p, by simp [va_up, hba]; exact e1, e2⟩),
  (fun b hb => by
    by_cases hba : b = a
    · subst hba
      obtain ⟨p, e1, e2⟩ := h.2.2.2.2.2.2.2.2.2.2.2.2.2.2.2.2.2.2.2.2.2.2.2.2.2.2.2.2.2.2.2.2.2.2.2.2.2.2.2.2.2.2.2.2.2.2.2.2.2.2.2.2.2.2.2.2.2.1 b hb
      exact ⟨p, by simp [va_up]; exact e1, e2⟩
    · obtain ⟨p, e1, e2⟩ := h.2.2.2.2.2.2.2.2.2.2.2.2.2.2.2.2.2.2.2.2.2.2.2.2.2.2.2.2.2.2.2.2.2.2.2.2.2.2.2.2.2.2.2.2.2.2.2.2.2.2.2.2.2.2.2.2.2.1 b hb
      exact ⟨p, by simp [va_up, hba]; exact e1, e2⟩),
  (fun b hb => by
    by_cases hba : b = a
    · subst hba
      obtain ⟨p, e1, e2⟩ := h.2.2.2.2.2.2.2.2.2.2.2.2.2.2.2.2.2.2.2.2.2.2.2.2.2.2.2.2.2.2.2.2.2.2.2.2.2.2.2.2.2.2.2.2.2.2.2.2.2.2.2.2.2.2.2.2.2.2.1 b hb
      exact ⟨p, by simp [va_up]; exact e1, e2⟩
    · obtain ⟨p, e1, e2⟩ := h.2.2.2.2.2.2.2.2.2.2.2.2.2.2.2.2.2.2.2.2.2.2.2.2.2.2.2.2.2.2.2.2.2.2.2.2.2.2.2.2.2.2.2.2.2.2.2.2.2.2.2.2.2.2.2.2.2.2.1 b hb
      exact ⟨p, by simp [va_up, hba]; exact e1, e2⟩),
  (fun b hb => by
    by_cases hba : b = a
    · subst hba
      obtain ⟨p, e1, e2⟩ := h.2.2.2.2.2.2.2.2.2.2.2.2.2.2.2.2.2.2.2.2.2.2.2.2.2.2.2.2.2.2.2.2.2.2.2.2.2.2.2.2.2.2.2.2.2.2.2.2.2.2.2.2.2.2.2.2.2.2.2.1 b hb
      exact ⟨p, by simp [va_up]; exact e1, e2⟩
    · obtain ⟨p, e1, e2⟩ := h.2.2.2.2.2.2.2.2.2.2.2.2.2.2.2.2.2.2.2.2.2.2.2.2.2.2.2.2.2.2.2.2.2.2.2.2.2.2.2.2.2.2.2.2.2.2.2.2.2.2.2.2.2.2.2.2.2.2.2.1 b hb
      exact ⟨p, by simp [va_up, hba]; exact e1, e2⟩),
  (fun b hb => by
    by_cases hba : b = a
    · subst hba
      obtain ⟨p, e1, e2⟩ := h.2.2.2.2.2.2.2.2.2.2.2.2.2.2.2.2.2.2.2.2.2.2.2.2.2.2.2.2.2.2.2.2.2.2.2.2.2.2.2.2.2.2.2.2.2.2.2.2.2.2.2.2.2.2.2.2.2.2.2.2.1 b hb
      exact ⟨p, by simp [va_up]; exact e1, e2⟩
    · obtain ⟨p, e1, e2⟩ := h.2.2.2.2.2.2.2.2.2.2.2.2.2.2.2.2.2.2.2.2.2.2.2.2.2.2.2.2.2.2.2.2.2.2.2.2.2.2.2.2.2.2.2.2.2.2.2.2.2.2.2.2.2.2.2.2.2.2.2.2.1 b hb
      exact ⟨p, by simp [va_up, hba]; exact e1, e2⟩),
  (fun b hb => by
    by_cases hba : b = a
    · subst hba
      obtain ⟨p, e1, e2⟩ := h.2.2.2.2.2.2.2.2.2.2.2.2.2.2.2.2.2.2.2.2.2.2.2.2.2.2.2.2.2.2.2.2.2.2.2.2.2.2.2.2.2.2.2.2.2.2.2.2.2.2.2.2.2.2.2.2.2.2.2.2.2.1 b hb
      exact ⟨p, by simp [va_up]; exact e1, e2⟩
    · obtain ⟨p, e1, e2⟩ := h.2.2.2.2.2.2.2.2.2.2.2.2.2.2.2.2.2.2.2.2.2.2.2.2.2.2.2.2.2.2.2.2.2.2.2.2.2.2.2.2.2.2.2.2.2.2.2.2.2.2.2.2.2.2.2.2.2.2.2.2.2.1 b hb
      exact ⟨p, by simp [va_up, hba]; exact e1, e2⟩),
  (fun b hb => by
    by_cases hba : b = a
    · subst hba
      obtain ⟨p, e1, e2⟩ := h.2.2.2.2.2.2.2.2.2.2.2.2.2.2.2.2.2.2.2.2.2.2.2.2.2.2.2.2.2.2.2.2.2.2.2.2.2.2.2.2.2.2.2.2.2.2.2.2.2.2.2.2.2.2.2.2.2.2.2.2.2.2.1 b hb
      exact ⟨p, by simp [va_up]; exact e1, e2⟩
    · obtain ⟨p, e1, e2⟩ := h.2.2.2.2.2.2.2.2.2.2.2.2.2.2.2.2.2.2.2.2.2.2.2.2.2.2.2.2.2.2.2.2.2.2.2.2.2.2.2.2.2.2.2.2.2.2.2.2.2.2.2.2.2.2.2.2.2.2.2.2.2.2.1 b hb
      exact ⟨p, by simp [va_up, hba]; exact e1, e2⟩),
  (fun b hb => by
    by_cases hba : b = a
    · subst hba
      obtain ⟨p, e1, e2⟩ := h.2.2.2.2.2.2.2.2.2.2.2.2.2.2.2.2.2.2.2.2.2.2.2.2.2.2.2.2.2.2.2.2.2.2.2.2.2.2.2.2.2.2.2.2.2.2.2.2.2.2.2.2.2.2.2.2.2.2.2.2.2.2.2.1 b hb
      exact ⟨p, by simp [va_up]; exact e1, e2⟩
    · obtain ⟨p, e1, e2⟩ := h.2.2.2.2.2.2.2.2.2.2.2.2.2.2.2.2.2.2.2.2.2.2.2.2.2.2.2.2.2.2.2.2.2.2.2.2.2.2.2.2.2.2.2.2.2.2.2.2.2.2.2.2.2.2.2.2.2.2.2.2.2.2.2.1 b hb
      exact ⟨p, by simp [va_up, hba]; exact e1, e2⟩),
  (fun b hb => by
    by_cases hba : b = a
    · subst hba
      obtain ⟨p, e1, e2⟩ := h.2.2.2.2.2.2.2.2.2.2.2.2.2.2.2.2.2.2.2.2.2.2.2.2.2.2.2.2.2.2.2.2.2.2.2.2.2.2.2.2.2.2.2.2.2.2.2.2.2.2.2.2.2.2.2.2.2.2.2.2.2.2.2.2.1 b hb
      exact ⟨p, by simp [va_up]; exact e1, e2⟩
    · obtain ⟨p, e1, e2⟩ := h.2.2.2.2.2.2.2.2.2.2.2.2.2.2.2.2.2.2.2.2.2.2.2.2.2.2.2.2.2.2.2.2.2.2.2.2.2.2.2.2.2.2.2.2.2.2.2.2.2.2.2.2.2.2.2.2.2.2.2.2.2.2.2.2.1 b hb
      exact ⟨p, by simp [va_up, hba]; exact e1, e2⟩),
  (fun b hb => by
    by_cases hba : b = a
    · subst hba
      obtain ⟨p, e1, e2⟩ := h.2.2.2.2.2.2.2.2.2.2.2.2.2.2.2.2.2.2.2.2.2.2.2.2.2.2.2.2.2.2.2.2.2.2.2.2.2.2.2.2.2.2.2.2.2.2.2.2.2.2.2.2.2.2.2.2.2.2.2.2.2.2.2.2.2.1 b hb
      exact ⟨p, by simp [va_up]; exact e1, e2⟩
    · obtain ⟨p, e1, e2⟩ := h.2.2.2.2.2.2.2.2.2.2.2.2.2.2.2.2.2.2.2.2.2.2.2.2.2.2.2.2.2.2.2.2.2.2.2.2.2.2.2.2.2.2.2.2.2.2.2.2.2.2.2.2.2.2.2.2.2.2.2.2.2.2.2.2.2.1 b hb
      exact ⟨p, by simp [va_up, hba]; exact e1, e2⟩),
  (fun b hb => by
    by_cases hba : b = a
    · subst hba
      obtain ⟨p, e1, e2⟩ := h.2.2.2.2.2.2.2.2.2.2.2.2.2.2.2.2.2.2.2.2.2.2.2.2.2.2.2.2.2.2.2.2.2.2.2.2.2.2.2.2.2.2.2.2.2.2.2.2.2.2.2.2.2.2.2.2.2.2.2.2.2.2.2.2.2.2.1 b hb
      exact ⟨p, by simp [va_up]; exact e1, e2⟩
    · obtain ⟨p, e1, e2⟩ := h.2.2.2.2.2.2.2.2.2.2.2.2.2.2.2.2.2.2.2.2.2.2.2.2.2.2.2.2.2.2.2.2.2.2.2.2.2.2.2.2.2.2.2.2.2.2.2.2.2.2.2.2.2.2.2.2.2.2.2.2.2.2.2.2.2.2.1 b hb
      exact ⟨p, by simp [va_up, hba]; exact e1, e2⟩),
  (fun b hb => by
    by_cases hba : b = a
    · subst hba
      obtain ⟨p, e1, e2⟩ := h.2.2.2.2.2.2.2.2.2.2.2.2.2.2.2.2.2.2.2.2.2.2.2.2.2.2.2.2.2.2.2.2.2.2.2.2.2.2.2.2.2.2.2.2.2.2.2.2.2.2.2.2.2.2.2.2.2.2.2.2.2.2.2.2.2.2.2.1 b hb
      exact ⟨p, by simp [va_up]; exact e1, e2⟩
    · obtain ⟨p, e1, e2⟩ := h.2.2.2.2.2.2.2.2.2.2.2.2.2.2.2.2.2.2.2.2.2.2.2.2.2.2.2.2.2.2.2.2.2.2.2.2.2.2.2.2.2.2.2.2.2.2.2.2.2.2.2.2.2.2.2.2.2.2.2.2.2.2.2.2.2.2.2.1 b hb
      exact ⟨p, by simp [va_up, hba]; exact e1, e2⟩),
  (fun b hb => by
    by_cases hba : b = a
    · subst hba
      exact ⟨q, by simp [va_up], hq⟩
    · obtain ⟨p, e1, e2⟩ := h.2.2.2.2.2.2.2.2.2.2.2.2.2.2.2.2.2.2.2.2.2.2.2.2.2.2.2.2.2.2.2.2.2.2.2.2.2.2.2.2.2.2.2.2.2.2.2.2.2.2.2.2.2.2.2.2.2.2.2.2.2.2.2.2.2.2.2.2.1 b hb
      exact ⟨p, by simp [va_up, hba]; exact e1, e2⟩),
  h.2.2.2.2.2.2.2.2.2.2.2.2.2.2.2.2.2.2.2.2.2.2.2.2.2.2.2.2.2.2.2.2.2.2.2.2.2.2.2.2.2.2.2.2.2.2.2.2.2.2.2.2.2.2.2.2.2.2.2.2.2.2.2.2.2.2.2.2.2.1,
  h.2.2.2.2.2.2.2.2.2.2.2.2.2.2.2.2.2.2.2.2.2.2.2.2.2.2.2.2.2.2.2.2.2.2.2.2.2.2.2.2.2.2.2.2.2.2.2.2.2.2.2.2.2.2.2.2.2.2.2.2.2.2.2.2.2.2.2.2.2.2.1,
  h.2.2.2.2.2.2.2.2.2.2.2.2.2.2.2.2.2.2.2.2.2.2.2.2.2.2.2.2.2.2.2.2.2.2.2.2.2.2.2.2.2.2.2.2.2.2.2.2.2.2.2.2.2.2.2.2.2.2.2.2.2.2.2.2.2.2.2.2.2.2.2.1,
  h.2.2.2.2.2.2.2.2.2.2.2.2.2.2.2.2.2.2.2.2.2.2.2.2.2.2.2.2.2.2.2.2.2.2.2.2.2.2.2.2.2.2.2.2.2.2.2.2.2.2.2.2.2.2.2.2.2.2.2.2.2.2.2.2.2.2.2.2.2.2.2.2⟩)
theorem wkWF_refClaim {S : wPS} {a v j : Nat} (hW : wkWF S) (ha : wkIs S a 15) (hv : wkIs S v 0) : wkWF (wuRA S a (va_up (S.rA a) j (some v))) := by
  have h : wkWFr S.L S.K S.fA S.len S.rA := hW
  exact (show wkWFr S.L S.K S.fA S.len (va_up S.rA a (va_up (S.rA a) j (some v))) from ⟨h.1,
  h.2.1,
  h.2.2.1,
  h.2.2.2.1,
  h.2.2.2.2.1,
  h.2.2.2.2.2.1,
  h.2.2.2.2.2.2.1,
  h.2.2.2.2.2.2.2.1,
  h.2.2.2.2.2.2.2.2.1,
  h.2.2.2.2.2.2.2.2.2.1,
  h.2.2.2.2.2.2.2.2.2.2.1,
  h.2.2.2.2.2.2.2.2.2.2.2.1,
  h.2.2.2.2.2.2.2.2.2.2.2.2.1,
  h.2.2.2.2.2.2.2.2.2.2.2.2.2.1,
  h.2.2.2.2.2.2.2.2.2.2.2.2.2.2.1,
  h.2.2.2.2.2.2.2.2.2.2.2.2.2.2.2.1,
  h.2.2.2.2.2.2.2.2.2.2.2.2.2.2.2.2.1,
  h.2.2.2.2.2.2.2.2.2.2.2.2.2.2.2.2.2.1,
  h.2.2.2.2.2.2.2.2.2.2.2.2.2.2.2.2.2.2.1,
  h.2.2.2.2.2.2.2.2.2.2.2.2.2.2.2.2.2.2.2.1,
  h.2.2.2.2.2.2.2.2.2.2.2.2.2.2.2.2.2.2.2.2.1,
  h.2.2.2.2.2.2.2.2.2.2.2.2.2.2.2.2.2.2.2.2.2.1,
  h.2.2.2.2.2.2.2.2.2.2.2.2.2.2.2.2.2.2.2.2.2.2.1,
  h.2.2.2.2.2.2.2.2.2.2.2.2.2.2.2.2.2.2.2.2.2.2.2.1,
  h.2.2.2.2.2.2.2.2.2.2.2.2.2.2.2.2.2.2.2.2.2.2.2.2.1,
  h.2.2.2.2.2.2.2.2.2.2.2.2.2.2.2.2.2.2.2.2.2.2.2.2.2.1,
  h.2.2.2.2.2.2.2.2.2.2.2.2.2.2.2.2.2.2.2.2.2.2.2.2.2.2.1,
  h.2.2.2.2.2.2.2.2.2.2.2.2.2.2.2.2.2.2.2.2.2.2.2.2.2.2.2.1,
  h.2.2.2.2.2.2.2.2.2.2.2.2.2.2.2.2.2.2.2.2.2.2.2.2.2.2.2.2.1,
  h.2.2.2.2.2.2.2.2.2.2.2.2.2.2.2.2.2.2.2.2.2.2.2.2.2.2.2.2.2.1,
  h.2.2.2.2.2.2.2.2.2.2.2.2.2.2.2.2.2.2.2.2.2.2.2.2.2.2.2.2.2.2.1,
  h.2.2.2.2.2.2.2.2.2.2.2.2.2.2.2.2.2.2.2.2.2.2.2.2.2.2.2.2.2.2.2.1,
  h.2.2.2.2.2.2.2.2.2.2.2.2.2.2.2.2.2.2.2.2.2.2.2.2.2.2.2.2.2.2.2.2.1,
  h.2.2.2.2.2.2.2.2.2.2.2.2.2.2.2.2.2.2.2.2.2.2.2.2.2.2.2.2.2.2.2.2.2.1,
  h.2.2.2.2.2.2.2.2.2.2.2.2.2.2.2.2.2.2.2.2.2.2.2.2.2.2.2.2.2.2.2.2.2.2.1,
  h.2.2.2.2.2.2.2.2.2.2.2.2.2.2.2.2.2.2.2.2.2.2.2.2.2.2.2.2.2.2.2.2.2.2.2.1,
  h.2.2.2.2.2.2.2.2.2.2.2.2.2.2.2.2.2.2.2.2.2.2.2.2.2.2.2.2.2.2.2.2.2.2.2.2.1,
  h.2.2.2.2.2.2.2.2.2.2.2.2.2.2.2.2.2.2.2.2.2.2.2.2.2.2.2.2.2.2.2.2.2.2.2.2.2.1,
  h.2.2.2.2.2.2.2.2.2.2.2.2.2.2.2.2.2.2.2.2.2.2.2.2.2.2.2.2.2.2.2.2.2.2.2.2.2.2.1,
  h.2.2.2.2.2.2.2.2.2.2.2.2.2.2.2.2.2.2.2.2.2.2.2.2.2.2.2.2.2.2.2.2.2.2.2.2.2.2.2.1,
  h.2.2.2.2.2.2.2.2.2.2.2.2.2.2.2.2.2.2.2.2.2.2.2.2.2.2.2.2.2.2.2.2.2.2.2.2.2.2.2.2.1,
  h.2.2.2.2.2.2.2.2.2.2.2.2.2.2.2.2.2.2.2.2.2.2.2.2.2.2.2.2.2.2.2.2.2.2.2.2.2.2.2.2.2.1,
  h.2.2.2.2.2.2.2.2.2.2.2.2.2.2.2.2.2.2.2.2.2.2.2.2.2.2.2.2.2.2.2.2.2.2.2.2.2.2.2.2.2.2.1,
  h.2.2.2.2.2.2.2.2.2.2.2.2.2.2.2.2.2.2.2.2.2.2.2.2.2.2.2.2.2.2.2.2.2.2.2.2.2.2.2.2.2.2.2.1,
  h.2.2.2.2.2.2.2.2.2.2.2.2.2.2.2.2.2.2.2.2.2.2.2.2.2.2.2.2.2.2.2.2.2.2.2.2.2.2.2.2.2.2.2.2.1,
  h.2.2.2.2.2.2.2.2.2.2.2.2.2.2.2.2.2.2.2.2.2.2.2.2.2.2.2.2.2.2.2.2.2.2.2.2.2.2.2.2.2.2.2.2.2.1,
  h.2.2.2.2.2.2.2.2.2.2.2.2.2.2.2.2.2.2.2.2.2.2.2.2.2.2.2.2.2.2.2.2.2.2.2.2.2.2.2.2.2.2.2.2.2.2.1,
  h.2.2.2.2.2.2.2.2.2.2.2.2.2.2.2.2.2.2.2.2.2.2.2.2.2.2.2.2.2.2.2.2.2.2.2.2.2.2.2.2.2.2.2.2.2.2.2.1,
  h.2.2.2.2.2.2.2.2.2.2.2.2.2.2.2.2.2.2.2.2.2.2.2.2.2.2.2.2.2.2.2.2.2.2.2.2.2.2.2.2.2.2.2.2.2.2.2.2.1,
  h.2.2.2.2.2.2.2.2.2.2.2.2.2.2.2.2.2.2.2.2.2.2.2.2.2.2.2.2.2.2.2.2.2.2.2.2.2.2.2.2.2.2.2.2.2.2.2.2.2.1,
  h.2.2.2.2.2.2.2.2.2.2.2.2.2.2.2.2.2.2.2.2.2.2.2.2.2.2.2.2.2.2.2.2.2.2.2.2.2.2.2.2.2.2.2.2.2.2.2.2.2.2.1,
  h.2.2.2.2.2.2.2.2.2.2.2.2.2.2.2.2.2.2.2.2.2.2.2.2.2.2.2.2.2.2.2.2.2.2.2.2.2.2.2.2.2.2.2.2.2.2.2.2.2.2.2.1,
  h.2.2.2.2.2.2.2.2.2.2.2.2.2.2.2.2.2.2.2.2.2.2.2.2.2.2.2.2.2.2.2.2.2.2.2.2.2.2.2.2.2.2.2.2.2.2.2.2.2.2.2.2.1,
  h.2.2.2.2.2.2.2.2.2.2.2.2.2.2.2.2.2.2.2.2.2.2.2.2.2.2.2.2.2.2.2.2.2.2.2.2.2.2.2.2.2.2.2.2.2.2.2.2.2.2.2.2.2.1,
  h.2.2.2.2.2.2.2.2.2.2.2.2.2.2.2.2.2.2.2.2.2.2.2.2.2.2.2.2.2.2.2.2.2.2.2.2.2.2.2.2.2.2.2.2.2.2.2.2.2.2.2.2.2.2.1,
  h.2.2.2.2.2.2.2.2.2.2.2.2.2.2.2.2.2.2.2.2.2.2.2.2.2.2.2.2.2.2.2.2.2.2.2.2.2.2.2.2.2.2.2.2.2.2.2.2.2.2.2.2.2.2.2.1,
  h.2.2.2.2.2.2.2.2.2.2.2.2.2.2.2.2.2.2.2.2.2.2.2.2.2.2.2.2.2.2.2.2.2.2.2.2.2.2.2.2.2.2.2.2.2.2.2.2.2.2.2.2.2.2.2.2.1,
  h.2.2.2.2.2.2.2.2.2.2.2.2.2.2.2.2.2.2.2.2.2.2.2.2.2.2.2.2.2.2.2.2.2.2.2.2.2.2.2.2.2.2.2.2.2.2.2.2.2.2.2.2.2.2.2.2.2.1,
  h.2.2.2.2.2.2.2.2.2.2.2.2.2.2.2.2.2.2.2.2.2.2.2.2.2.2.2.2.2.2.2.2.2.2.2.2.2.2.2.2.2.2.2.2.2.2.2.2.2.2.2.2.2.2.2.2.2.2.1,
  h.2.2.2.2.2.2.2.2.2.2.2.2.2.2.2.2.2.2.2.2.2.2.2.2.2.2.2.2.2.2.2.2.2.2.2.2.2.2.2.2.2.2.2.2.2.2.2.2.2.2.2.2.2.2.2.2.2.2.2.1,
  h.2.2.2.2.2.2.2.2.2.2.2.2.2.2.2.2.2.2.2.2.2.2.2.2.2.2.2.2.2.2.2.2.2.2.2.2.2.2.2.2.2.2.2.2.2.2.2.2.2.2.2.2.2.2.2.2.2.2.2.2.1,
  h.2.2.2.2.2.2.2.2.2.2.2.2.2.2.2.2.2.2.2.2.2.2.2.2.2.2.2.2.2.2.2.2.2.2.2.2.2.2.2.2.2.2.2.2.2.2.2.2.2.2.2.2.2.2.2.2.2.2.2.2.2.1,
  h.2.2.2.2.2.2.2.2.2.2.2.2.2.2.2.2.2.2.2.2.2.2.2.2.2.2.2.2.2.2.2.2.2.2.2.2.2.2.2.2.2.2.2.2.2.2.2.2.2.2.2.2.2.2.2.2.2.2.2.2.2.2.1,
  h.2.2.2.2.2.2.2.2.2.2.2.2.2.2.2.2.2.2.2.2.2.2.2.2.2.2.2.2.2.2.2.2.2.2.2.2.2.2.2.2.2.2.2.2.2.2.2.2.2.2.2.2.2.2.2.2.2.2.2.2.2.2.2.1,
  h.2.2.2.2.2.2.2.2.2.2.2.2.2.2.2.2.2.2.2.2.2.2.2.2.2.2.2.2.2.2.2.2.2.2.2.2.2.2.2.2.2.2.2.2.2.2.2.2.2.2.2.2.2.2.2.2.2.2.2.2.2.2.2.2.1,
  h.2.2.2.2.2.2.2.2.2.2.2.2.2.2.2.2.2.2.2.2.2.2.2.2.2.2.2.2.2.2.2.2.2.2.2.2.2.2.2.2.2.2.2.2.2.2.2.2.2.2.2.2.2.2.2.2.2.2.2.2.2.2.2.2.2.1,
  h.2.2.2.2.2.2.2.2.2.2.2.2.2.2.2.2.2.2.2.2.2.2.2.2.2.2.2.2.2.2.2.2.2.2.2.2.2.2.2.2.2.2.2.2.2.2.2.2.2.2.2.2.2.2.2.2.2.2.2.2.2.2.2.2.2.2.1,
  h.2.2.2.2.2.2.2.2.2.2.2.2.2.2.2.2.2.2.2.2.2.2.2.2.2.2.2.2.2.2.2.2.2.2.2.2.2.2.2.2.2.2.2.2.2.2.2.2.2.2.2.2.2.2.2.2.2.2.2.2.2.2.2.2.2.2.2.1,
  h.2.2.2.2.2.2.2.2.2.2.2.2.2.2.2.2.2.2.2.2.2.2.2.2.2.2.2.2.2.2.2.2.2.2.2.2.2.2.2.2.2.2.2.2.2.2.2.2.2.2.2.2.2.2.2.2.2.2.2.2.2.2.2.2.2.2.2.2.1,
  (fun b i hb hi => by
    by_cases hba : b = a
    · subst hba
      by_cases hij : i = j
      · subst hij
        exact ⟨v, by simp [va_up], hv⟩
      · obtain ⟨p, e1, e2⟩ := h.2.2.2.2.2.2.2.2.2.2.2.2.2.2.2.2.2.2.2.2.2.2.2.2.2.2.2.2.2.2.2.2.2.2.2.2.2.2.2.2.2.2.2.2.2.2.2.2.2.2.2.2.2.2.2.2.2.2.2.2.2.2.2.2.2.2.2.2.2.1 b i hb hi
        exact ⟨p, by simp [va_up, hij]; exact e1, e2⟩
    · obtain ⟨p, e1, e2⟩ := h.2.2.2.2.2.2.2.2.2.2.2.2.2.2.2.2.2.2.2.2.2.2.2.2.2.2.2.2.2.2.2.2.2.2.2.2.2.2.2.2.2.2.2.2.2.2.2.2.2.2.2.2.2.2.2.2.2.2.2.2.2.2.2.2.2.2.2.2.2.1 b i hb hi
      exact ⟨p, by simp [va_up, hba]; exact e1, e2⟩),
  (fun b i hb hi => by
    by_cases hba : b = a
    · subst hba
      exact absurd (ha.2.symm.trans hb.2) (by decide)
    · obtain ⟨p, e1, e2⟩ := h.2.2.2.2.2.2.2.2.2.2.2.2.2.2.2.2.2.2.2.2.2.2.2.2.2.2.2.2.2.2.2.2.2.2.2.2.2.2.2.2.2.2.2.2.2.2.2.2.2.2.2.2.2.2.2.2.2.2.2.2.2.2.2.2.2.2.2.2.2.2.1 b i hb hi
      exact ⟨p, by simp [va_up, hba]; exact e1, e2⟩),
  (fun b i hb hi => by
    by_cases hba : b = a
    · subst hba
      exact absurd (ha.2.symm.trans hb.2) (by decide)
    · obtain ⟨p, e1, e2⟩ := h.2.2.2.2.2.2.2.2.2.2.2.2.2.2.2.2.2.2.2.2.2.2.2.2.2.2.2.2.2.2.2.2.2.2.2.2.2.2.2.2.2.2.2.2.2.2.2.2.2.2.2.2.2.2.2.2.2.2.2.2.2.2.2.2.2.2.2.2.2.2.2.1 b i hb hi
      exact ⟨p, by simp [va_up, hba]; exact e1, e2⟩),
  (fun b i hb hi => by
    by_cases hba : b = a
    · subst hba
      exact absurd (ha.2.symm.trans hb.2) (by decide)
    · obtain ⟨p, e1, e2⟩ := h.2.2.2.2.2.2.2.2.2.2.2.2.2.2.2.2.2.2.2.2.2.2.2.2.2.2.2.2.2.2.2.2.2.2.2.2.2.2.2.2.2.2.2.2.2.2.2.2.2.2.2.2.2.2.2.2.2.2.2.2.2.2.2.2.2.2.2.2.2.2.2.2 b i hb hi
      exact ⟨p, by simp [va_up, hba]; exact e1, e2⟩)⟩)
end
