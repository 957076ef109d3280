/-! THE BOOK: an entry asks something else. -/
section
theorem pow_or {a c a' c' : Nat} (hne : a ≠ c) (hne' : a' ≠ c') : 2 ^ a ||| 2 ^ c = 2 ^ a' ||| 2 ^ c' ↔ (a = a' ∧ c = c' ∨ a = c' ∧ c = a') := by
  constructor
  · intro h
    have t : ∀ i, (i = a ∨ i = c) ↔ (i = a' ∨ i = c') := fun i => by
      have := congrArg (fun S => Nat.testBit S i) h
      have : (2 ^ a ||| 2 ^ c).testBit i = (2 ^ a' ||| 2 ^ c').testBit i := this
      rw [Nat.testBit_or, Nat.testBit_or, nb_pow, nb_pow, nb_pow, nb_pow, Bool.eq_iff_iff, Bool.or_eq_true, Bool.or_eq_true, decide_eq_true_iff, decide_eq_true_iff, decide_eq_true_iff, decide_eq_true_iff] at this
      constructor
      · rintro (e | e)
        · exact (this.mp (Or.inl e.symm)).imp Eq.symm Eq.symm
        · exact (this.mp (Or.inr e.symm)).imp Eq.symm Eq.symm
      · rintro (e | e)
        · exact (this.mpr (Or.inl e.symm)).imp Eq.symm Eq.symm
        · exact (this.mpr (Or.inr e.symm)).imp Eq.symm Eq.symm
    have ta := (t a).mp (Or.inl rfl)
    have tc := (t c).mp (Or.inr rfl)
    omega
  · rintro (⟨e1, e2⟩ | ⟨e1, e2⟩)
    · rw [e1, e2]
    · rw [e1, e2, Nat.or_comm]
/-- no other item is between these two -/
def newE (k i : Nat) (q : qT) (x : Nat → Int32) : Prop := k = 0 ∨ k = 2 → ∀ o, o < Qm q → o ≠ i → ¬ (cA (Qd q) o = (x 0).toNatClampNeg ∧ cB (Qd q) o = (x 1).toNatClampNeg ∨ cA (Qd q) o = (x 1).toNatClampNeg ∧ cB (Qd q) o = (x 0).toNatClampNeg)
theorem T_edgeAgain {F e i : Nat} {q : qT} {V : mV} (hF : 64 ≤ F) (hq : isQn V e q) (ho : okIt q) (hi : i < 2 ^ 20) (hit : itK (Qk q) (Qs q) i (fun j => V.rI 12 j)) : mTo (mX4_isEdgeAgain F e (nI i) 12 V) (fun v => tfP v (¬ newE (Qk q) i q (fun j => V.rI 12 j))) := by
  have m16 := ho.m16
  obtain ⟨k12, _, s9, _, his, _⟩ := id ho
  have s9 : Qs q ≤ 9 := ho.s9
  have main : (Qk q = 0 ∨ Qk q = 2) → mTo (if (0 : Int32) < 0 ∨ mLen 12 ≤ ((0 : Int32)).toNatClampNeg then none else (if (1 : Int32) < 0 ∨ mLen 12 ≤ ((1 : Int32)).toNatClampNeg then none else (mLt (((1 : Int32) <<< ((V.rI 12 ((0 : Int32)).toNatClampNeg) &&& 31)) ||| ((1 : Int32) <<< ((V.rI 12 ((1 : Int32)).toNatClampNeg) &&& 31))) fun x19 => (mX4_isEdgeAgain_go F F 0 e (nI i) (x19) ((0 : Int32)) V)))) (fun v => tfP v (¬ newE (Qk q) i q (fun j => V.rI 12 j))) := fun hk => by
    obtain ⟨a, c, x0, x1, a1, c1, ne⟩ := (ik0 hk).mp hit
    have x0 : V.rI 12 0 = nI a := x0
    have x1 : V.rI 12 1 = nI c := x1
    refine mTo.gd (by decide) (mTo.gd (by decide) (mTo.lt ?_))
    rw [show ((0 : Int32)).toNatClampNeg = 0 from rfl, show ((1 : Int32)).toNatClampNeg = 1 from rfl, x0, x1, nb_one (by omega), nb_one (by omega), nb_or]
    have ed : ∀ o, o < Qm q → Qd q (5 * o) = nI (cA (Qd q) o) ∧ Qd q (5 * o + 1) = nI (cB (Qd q) o) ∧ cA (Qd q) o < Qs q ∧ cB (Qd q) o < Qs q ∧ cA (Qd q) o ≠ cB (Qd q) o := fun o hom => by
      obtain ⟨a, e, x0, x1, y1, y2, y3⟩ := (ik0 hk).mp (his o hom)
      have x0 : Qd q (5 * o) = nI a := x0
      have x1 : Qd q (5 * o + 1) = nI e := x1
      unfold cA cB
      rw [x0, x1, nI_clamp (by omega), nI_clamp (by omega)]
      exact ⟨rfl, rfl, y1, y2, y3⟩
    have nE : newE (Qk q) i q (fun j => V.rI 12 j) ↔ ∀ o, o < Qm q → o ≠ i → ¬ (cA (Qd q) o = a ∧ cB (Qd q) o = c ∨ cA (Qd q) o = c ∧ cB (Qd q) o = a) := by
      unfold newE
      dsimp only
      rw [x0, x1, nI_clamp (by omega), nI_clamp (by omega)]
      exact ⟨fun h => h hk, fun h _ => h⟩
    rw [nE]
    have pw : ∀ z, z < 9 → (2 : Nat) ^ z < 2 ^ 9 := fun z hz => nb_p2 hz
    have go : ∀ k' o, Qm q < o + k' → o ≤ Qm q → (∀ o', o' < o → o' ≠ i → ¬ (cA (Qd q) o' = a ∧ cB (Qd q) o' = c ∨ cA (Qd q) o' = c ∧ cB (Qd q) o' = a)) → mTo (mX4_isEdgeAgain_go F k' 0 e (nI i) (nI (2 ^ a ||| 2 ^ c)) (nI o) V) (fun v => tfP v (¬ ∀ o, o < Qm q → o ≠ i → ¬ (cA (Qd q) o = a ∧ cB (Qd q) o = c ∨ cA (Qd q) o = c ∧ cB (Qd q) o = a))) := by
      intro k'
      induction k' with
      | zero => intro o h1 h2; omega
      | succ k ih =>
        intro o h1 h2 h3
        rw [mX4_isEdgeAgain_go, if_pos rfl]
        unfold mX4_isEdgeAgain_b0
        refine mTo.le hq.2.2.2.2.2.2.1 rfl (by omega) (by omega) (fun z => mTo.ret (tf0 fun c => c (fun o' ho' => h3 o' (by omega)))) (fun z => mTo.eqI rfl rfl (by omega) (by omega) (fun y => mTo.lt ?_) (fun y => ?_))
        · rw [nI_1]
          refine ih (o + 1) (by omega) (by omega) (fun o' ho' ne' => ?_)
          exact h3 o' (by omega) ne'
        · obtain ⟨d0, d1, d2, d3, d4⟩ := ed o z
          have g0 : mX3_at F e (nI o) (0 : Int32) V = some (nI (cA (Qd q) o)) := T_item (k := 0) hq.2.2.2.2.2.2.1 m16 z (by decide) rfl (by rw [hq.2.2.2.2.2.2.2.1 _ (by omega)]; exact d0)
          have g1 : mX3_at F e (nI o) (1 : Int32) V = some (nI (cB (Qd q) o)) := T_item (k := 1) hq.2.2.2.2.2.2.1 m16 z (by decide) rfl (by rw [hq.2.2.2.2.2.2.2.1 _ (by omega)]; exact d1)
          refine mTo.so g0 (mTo.so g1 ?_)
          rw [nb_one (by omega), nb_one (by omega), nb_or]
          have l1 := nb_or_lt (pw a (by omega)) (pw c (by omega))
          have l2 := nb_or_lt (pw (cA (Qd q) o) (by omega)) (pw (cB (Qd q) o) (by omega))
          refine mTo.eqI rfl rfl (by omega) (by omega) (fun w => mTo.ret (tf1 fun h => h o z y ((pow_or d4 ne).mp w))) (fun w => mTo.lt ?_)
          rw [nI_1]
          refine ih (o + 1) (by omega) z (fun o' ho' ne' => ?_)
          by_cases eo : o' = o
          · rw [eo]
            exact fun h => w ((pow_or d4 ne).mpr h)
          · exact h3 o' (by omega) ne'
    exact go F 0 (by omega) (Nat.zero_le _) (fun o' ho' => absurd ho' (Nat.not_lt_zero o'))
  unfold mX4_isEdgeAgain mX4_isEdgeAgain_s
  rw [hq.1]
  refine mTo.eqI (b := 0) rfl rfl (by omega) (by omega) (fun z => main (Or.inl z)) (fun z => mTo.eqI (b := 2) rfl rfl (by omega) (by omega) (fun y => main (Or.inr y)) (fun y => mTo.ret (tf0 fun c => c (fun h => absurd h (fun h => h.elim z y)))))
/-- it is as its kind tells, and no edge again -/
def itNew (q : qT) (i : Nat) (x : Nat → Int32) : Prop := itK (Qk q) (Qs q) i x ∧ newE (Qk q) i q x
theorem T_testItem {F e i : Nat} {q : qT} {Ln : Nat → Nat} {V : mV} (hF : 64 ≤ F) (hq : isQn V e q) (ho : okIt q) (hi : i < 2 ^ 20) (hT : Ln 3000 < 5000) : mTo (mX11_testItem F Ln e (nI i) V) (fun p => (itNew q i (fun j => V.rI 12 j) ∧ p = (.inr (), Ln, V)) ∨ (¬ itNew q i (fun j => V.rI 12 j) ∧ ∃ x, (x = "java/lang/IllegalArgumentException" ∨ x = "java/lang/UnsupportedOperationException") ∧ p = (.inl x, va_up Ln 3000 (Ln 3000 + 1), V))) := by
  unfold mX11_testItem
  refine mTo.N (T_isItemOf hF hq.1 hq.2.1 ho.1 ho.2.1 ho.2.2.1 hi) (fun v _ h => mTo.tf h (fun hc => mTo.th hT (Or.inr ⟨fun c => hc c.1, _, Or.inl rfl, rfl⟩)) (fun hc => ?_))
  refine mTo.N (T_edgeAgain hF hq ho hi hc) (fun v _ h => mTo.tf h (fun h2 => mTo.ret (Or.inl ⟨⟨hc, Classical.not_not.mp h2⟩, rfl⟩)) (fun h2 => mTo.th hT (Or.inr ⟨fun c => h2 c.2, _, Or.inr rfl, rfl⟩)))
theorem T_tellN {F : Nat} {a b c d e : Int32} {V : mV} : ∃ V1, mX11_tellNumbers F a b c d e V = some ((), V1) ∧ (V1.rI 12 0 = a ∧ V1.rI 12 1 = b ∧ V1.rI 12 2 = c ∧ V1.rI 12 3 = d ∧ V1.rI 12 4 = e) ∧ mAv wX11_tellNumbers V V1 := by
  have e1 : mX11_tellNumbers F a b c d e V = some ((), mI (mI (mI (mI (mI V 12 0 a) 12 1 b) 12 2 c) 12 3 d) 12 4 e) := rfl
  refine ⟨_, e1, ?_, NX11_tellNumbers e1⟩
  have at_ : ∀ (W : mV) (j : Nat) (x v : Int32), x.toNatClampNeg = j → ∀ i, (mI W 12 x v).rI 12 i = if i = j then v else W.rI 12 i := fun W j x v h i => mI_at h
  rw [at_ _ 4 4 _ rfl, at_ _ 4 4 _ rfl, at_ _ 4 4 _ rfl, at_ _ 4 4 _ rfl, at_ _ 4 4 _ rfl, at_ _ 3 3 _ rfl, at_ _ 3 3 _ rfl, at_ _ 3 3 _ rfl, at_ _ 3 3 _ rfl, at_ _ 2 2 _ rfl, at_ _ 2 2 _ rfl, at_ _ 2 2 _ rfl, at_ _ 1 1 _ rfl, at_ _ 1 1 _ rfl, at_ _ 0 0 _ rfl]
  exact ⟨rfl, rfl, rfl, rfl, rfl⟩
/-- five numbers -/
def five (a b c d e : Int32) (j : Nat) : Int32 := if j = 0 then a else if j = 1 then b else if j = 2 then c else if j = 3 then d else e
theorem itK_c {k s i : Nat} {x y : Nat → Int32} (h : ∀ j, j < 5 → x j = y j) (hs : s ≤ 9) (h3 : k = 3 ∨ k = 5 → s ≤ 4) : itK k s i x ↔ itK k s i y := by
  have imp : ∀ x y : Nat → Int32, (∀ j, j < 5 → x j = y j) → itK k s i x → itK k s i y := fun x y h q => by
    obtain ⟨q0, q1, q3, q4, q5, q7, q8, q9, q10, q11⟩ := q
    have e0 := h 0 (by decide)
    have e1 := h 1 (by decide)
    have e2 := h 2 (by decide)
    have e4 := h 4 (by decide)
    refine ⟨fun z => ?_, fun z => ?_, fun z => ?_, fun z => ?_, fun z => ?_, fun z => ?_, fun z => ?_, fun z => ?_, fun z => ?_, fun z => ?_⟩
    · rw [← e0, ← e1]; exact q0 z
    · rw [← e0, ← e1, ← e2]; exact q1 z
    · rw [← e4]
      exact ⟨fun j hj => by rw [← h j (by have := h3 (Or.inl z); omega)]; exact (q3 z).1 j hj, (q3 z).2⟩
    · rw [← e0, ← e1, ← e2]
      exact ⟨fun j hj => by rw [← h j (by omega)]; exact (q4 z).1 j hj, (q4 z).2⟩
    · rw [← e4]
      exact ⟨fun j hj => by rw [← h j (by have := h3 (Or.inr z); omega)]; exact (q5 z).1 j hj, (q5 z).2⟩
    · exact fun j hj => by rw [← h j (by omega)]; exact q7 z j hj
    · exact ⟨fun j hj h5 => by rw [← h j h5]; exact (q8 z).1 j hj h5, fun a b hab hb h5 => by rw [← h a (by omega), ← h b h5]; exact (q8 z).2 a b hab hb h5⟩
    · rw [← e0, ← e1]; exact q9 z
    · rw [← e0, ← e1, ← e2]; exact q10 z
    · obtain ⟨o, w, a, a0, a1, a2, a3, a4, a5, a6⟩ := q11 z
      exact ⟨o, w, a, by rw [← e0]; exact a0, by rw [← e1]; exact a1, by rw [← e2]; exact a2, a3, a4, a5, fun j hj => by rw [← h (3 + j) (by omega)]; exact a6 j hj⟩
  exact ⟨imp x y h, imp y x (fun j hj => (h j hj).symm)⟩
/-- the same entry with other items -/
def qIt (q : qT) (m : Nat) (d : Nat → Int32) : qT := ((Qk q, Qs q, m, d), Qb q, Ql q, Qp q, Qo q)
theorem acyc_it {Q : Nat → qT} {n j : Nat} {q : qT} (h : acyc Q n) (e : Ql q = Ql (Q j)) : acyc (va_up Q j q) n := by
  have l : ∀ i, Ql (va_up Q j q i) = Ql (Q i) := fun i => by
    by_cases c : i = j
    · rw [c, mUp_eq, e]
    · rw [mUp_ne _ _ c]
  have st : ∀ t i, endQ Q n t i → endQ (va_up Q j q) n t i := by
    intro t
    induction t with
    | zero =>
      intro i h
      show Ql (va_up Q j q i) < 0
      rw [l]
      exact h
    | succ t ih =>
      intro i h
      obtain ⟨x, x1, x2, x3⟩ := h
      exact ⟨x, by rw [l]; exact x1, x2, ih x x3⟩
  intro i hi
  obtain ⟨t, ht⟩ := h i hi
  exact ⟨t, st t i ht⟩
/-- an entry is changed: all else stays -/
theorem bST.upd {Ln Ln1 : Nat → Nat} {V V1 : mV} {n j : Nat} {Q : Nat → qT} {q : qT} {w : Nat → Prop} (h : bST Ln V n Q) (hj : j < n) (a : mAv w V V1) (b : mAl w Ln Ln1) (f0 : ∀ i, i ≠ 9 → i ≠ 10 → V1.fI 0 i = V.fI 0 i) (hc : chS V1) (w9 : ¬ w 9) (w17 : ¬ w 17) (wt : ¬ w 2048 ∧ ¬ w 2049) (wc : ∀ z, z < 64 → ¬ w (1024 + z)) (we : ∀ i, 256 ≤ i → i < 352 → i ≠ 256 + 8 * j → i ≠ 256 + 8 * j + 1 → ¬ w i) (hq : isQn V1 (256 + 8 * j) q) (ho : okIt q) (hb : bndQ (Qk q) (Qb q)) (h9 : V1.fI (256 + 8 * j) 9 = 0) (hac : acyc (va_up Q j q) n) (hor : Qo q < 0 ∨ ∃ o, o < n ∧ Qo q = nI o) : bST Ln1 V1 n (va_up Q j q) := by
  obtain ⟨⟨⟨q1, q2, q3, q4⟩, hS, hW⟩, hX, hO⟩ := h
  have oe : ∀ i, i < 12 → i ≠ j → V1.fI (256 + 8 * i) = V.fI (256 + 8 * i) := fun i hi ne => (a.1 _ (we _ (by omega) (by omega) (by omega) (by omega))).1
  refine ⟨⟨⟨by rw [f0 2 (by decide) (by decide)]; exact q1, q2, fun i hi => ?_, hac⟩, fun i hi hi9 => ?_, fun i hi => ?_⟩, ?_, fun i hi => ?_⟩
  · by_cases e : i = j
    · rw [e, mUp_eq]
      exact ⟨hq, ho, hb⟩
    · rw [mUp_ne _ _ e]
      obtain ⟨a', b', c'⟩ := q3 i hi
      exact ⟨a'.mv (fun x _ => by rw [oe i (by omega) e]) (a.1 _ (we _ (by omega) (by omega) (by omega) (by omega))).2.2.1, b', c'⟩
  · by_cases e : i = j
    · rw [e] at hi9
      exact absurd h9 hi9
    · rw [mUp_ne _ _ e]
      rw [oe i (by omega) e] at hi9 ⊢
      obtain ⟨y1, y2, y3, y4⟩ := hS i hi hi9
      exact ⟨y1, y2, y3, y4.mv2 a b (we _ (by omega) (by omega) (by omega) (by omega)) (we _ (by omega) (by omega) (by omega) (by omega))⟩
  · obtain ⟨xs, hx⟩ := hW i hi
    exact ⟨xs, hx.mv2 a b (we _ (by omega) (by omega) (by omega) (by omega)) (we _ (by omega) (by omega) (by omega) (by omega))⟩
  · obtain ⟨⟨ts, t1⟩, h2, _, ⟨c, d1, d2, d3, d4, d5⟩, ⟨p, p1, p2⟩, ⟨e, e1, e2⟩, k, k1, k2⟩ := hX
    have cl := a.2 w17
    refine ⟨⟨ts, t1.mv2 a b wt.1 wt.2⟩, fun j hj => ?_, hc, ⟨c, by rw [f0 15 (by decide) (by decide), d1], d2, fun i hi => ?_, fun i j hij hj => by rw [cl]; exact d4 i j hij hj, fun i hi => ?_⟩, ⟨p, by rw [f0 13 (by decide) (by decide), p1], p2.1, by rw [mUp_ne _ _ (show (100 : Nat) ≠ j by omega)]; exact p2.2⟩, ⟨e, by rw [f0 17 (by decide) (by decide), e1], e2.1, by rw [b 9 w9]; exact e2.2⟩, k, k1, by rw [b 9 w9, k2]⟩
    · obtain ⟨ys, y1⟩ := h2 j hj
      exact ⟨ys, y1.mv2 a b (we _ (by omega) (by omega) (by omega) (by omega)) (we _ (by omega) (by omega) (by omega) (by omega))⟩
    · obtain ⟨⟨z, z1, z2⟩, xs, x1⟩ := d3 i hi
      rw [cl]
      refine ⟨⟨z, z1, z2⟩, xs, ?_⟩
      rw [z2] at x1 ⊢
      exact x1.mv2 a b (by have := wc (4 * z + 1) (by omega); rw [show 1024 + 4 * z + 1 = 1024 + (4 * z + 1) by omega]; exact this) (by have := wc (4 * z + 2) (by omega); rw [show 1024 + 4 * z + 1 + 1 = 1024 + (4 * z + 2) by omega]; exact this)
    · obtain ⟨⟨z, z1, z2⟩, _⟩ := d3 i (by omega)
      obtain ⟨⟨j, j1, j2⟩, j3⟩ := d5 i hi
      rw [cl]
      rw [z2] at j1 j3 ⊢
      have fz := (a.1 (1024 + 4 * z) (wc (4 * z) (by omega))).1
      rw [fz]
      exact ⟨⟨j, j1, j2⟩, j3⟩
  · by_cases e : i = j
    · rw [e, mUp_eq]
      exact hor
    · rw [mUp_ne _ _ e]
      exact hO i hi
end
