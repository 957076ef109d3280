/-! REDUCTIONS: a pairing becomes clauses. -/
section
theorem bk_iff {d : Nat → Int32} {D T i : Nat} : bk d D T i = false ↔ ∃ k, k < 3 ∧ bkI d D T i k = false := by
  unfold bk
  constructor
  · intro h
    cases e0 : bkI d D T i 0 with
    | false => exact ⟨0, by decide, e0⟩
    | true =>
      cases e1 : bkI d D T i 1 with
      | false => exact ⟨1, by decide, e1⟩
      | true =>
        cases e2 : bkI d D T i 2 with
        | false => exact ⟨2, by decide, e2⟩
        | true => rw [e0, e1, e2] at h; cases h
  · rintro ⟨k, k3, h⟩
    rcases (show k = 0 ∨ k = 1 ∨ k = 2 by omega) with e | e | e <;> subst e <;> rw [h]
    · rfl
    · rw [Bool.and_false, Bool.false_and]
    · rw [Bool.and_false]
theorem bkI_c {d d' : Nat → Int32} {D T i i' k : Nat} (h : d (5 * i + k) = d' (5 * i' + k)) : bkI d D T i k = bkI d' D T i' k := by
  unfold bkI
  rw [h]
theorem bkI_0 {d : Nat → Int32} {D T i k : Nat} (h : d (5 * i + k) = 0) : bkI d D T i k = true := by
  unfold bkI
  rw [h]
  rfl
theorem bkI_p {d : Nat → Int32} {D T i k j : Nat} (hD : D ≤ 6) (hj : j < D) (h : d (5 * i + k) = nI (j + 1)) : bkI d D T i k = !T.testBit j := by
  obtain ⟨a1, _, a3⟩ := ab_p (j + 1) (by omega)
  obtain ⟨b1, _, _, _, b5, _⟩ := a3 (by omega)
  unfold bkI
  rw [h, a1, decide_eq_false b1, nI_clamp (by omega), decide_eq_true (by omega), decide_eq_true b5, Nat.add_sub_cancel]
  cases T.testBit j <;> rfl
theorem bkI_n {d : Nat → Int32} {D T i k j : Nat} (hD : D ≤ 6) (hj : j < D) (h : d (5 * i + k) = -nI (j + 1)) : bkI d D T i k = T.testBit j := by
  obtain ⟨_, a2, a3⟩ := ab_p (j + 1) (by omega)
  obtain ⟨_, b2, _, _, _, b6⟩ := a3 (by omega)
  unfold bkI
  rw [h, a2, decide_eq_false b2, nI_clamp (by omega), decide_eq_true (by omega), decide_eq_false b6, Nat.add_sub_cancel]
  cases T.testBit j <;> rfl
def rw4 (mm : Nat) (x : Nat → Int32) : Prop := (∀ j, j < 3 → (x j).toInt.natAbs ≤ mm) ∧ ¬ (x 0 = 0 ∧ x 1 = 0 ∧ x 2 = 0)
def sIn (mm : Nat) (q : qT) (P : Nat → Prop) : Prop := Qk q = 4 ∧ Qs q = mm ∧ q.2 = (nI mm, -1, 0, -1) ∧ Qm q ≤ 16 ∧ (Qm q ≤ 15 → (∀ i, i < Qm q → rw4 mm (fun j => Qd q (5 * i + j))) ∧ ∀ T, T < 2 ^ mm → ((∀ i, i < Qm q → bk (Qd q) mm T i = false) ↔ P T))
theorem sIn.cg {mm : Nat} {q : qT} {P P' : Nat → Prop} (h : sIn mm q P) (e : ∀ T, T < 2 ^ mm → (P T ↔ P' T)) : sIn mm q P' := ⟨h.1, h.2.1, h.2.2.1, h.2.2.2.1, fun h15 => ⟨(h.2.2.2.2 h15).1, fun T hT => ((h.2.2.2.2 h15).2 T hT).trans (e T hT)⟩⟩
theorem sIn.full {mm : Nat} {q : qT} {P P' : Nat → Prop} (h : sIn mm q P) (e : Qm q = 16) : sIn mm q P' := ⟨h.1, h.2.1, h.2.2.1, h.2.2.2.1, fun h15 => by omega⟩
theorem bk_old {q : qT} {x : Nat → Int32} {D T i : Nat} (hi : i < Qm q) : bk (Qd (exQ q x)) D T i = bk (Qd q) D T i := by
  have e : ∀ k, k < 3 → bkI (Qd (exQ q x)) D T i k = bkI (Qd q) D T i k := fun k hk => bkI_c (addD_no (show k < 5 by omega) (show i ≠ Qm q by omega))
  unfold bk
  rw [e 0 (by decide), e 1 (by decide), e 2 (by decide)]
theorem bk_new {q : qT} {x : Nat → Int32} {D T : Nat} : bk (Qd (exQ q x)) D T (Qm q) = bk x D T 0 := by
  have e : ∀ k, k < 3 → bkI (Qd (exQ q x)) D T (Qm q) k = bkI x D T 0 k := fun k hk => bkI_c (by
    rw [Nat.mul_zero, Nat.zero_add]
    exact addD_at (show k < 5 by omega))
  unfold bk
  rw [e 0 (by decide), e 1 (by decide), e 2 (by decide)]
theorem sIn.add {mm : Nat} {q : qT} {P R : Nat → Prop} {x : Nat → Int32} (h : sIn mm q P) (h15 : Qm q ≤ 15) (hx : rw4 mm x) (hr : ∀ T, T < 2 ^ mm → (bk x mm T 0 = false ↔ R T)) : sIn mm (exQ q x) (fun T => P T ∧ R T) := by
  obtain ⟨a1, a2, a3, a4, a5⟩ := h
  obtain ⟨c1, c2⟩ := a5 h15
  refine ⟨a1, a2, a3, show Qm q + 1 ≤ 16 by omega, fun _ => ⟨fun i hi => ?_, fun T hT => ?_⟩⟩
  · have hi : i < Qm q + 1 := hi
    have e : (fun j => Qd (exQ q x) (5 * i + j)) = fun j => addD q (Qm q) x (5 * i + j) := rfl
    rw [e]
    by_cases z : i = Qm q
    · rw [z]
      refine ⟨fun j hj => ?_, fun c => hx.2 ?_⟩
      · show (addD q (Qm q) x (5 * Qm q + j)).toInt.natAbs ≤ mm
        rw [addD_at (by omega)]
        exact hx.1 j hj
      · obtain ⟨d1, d2, d3⟩ := c
        have d1 : addD q (Qm q) x (5 * Qm q + 0) = 0 := d1
        have d2 : addD q (Qm q) x (5 * Qm q + 1) = 0 := d2
        have d3 : addD q (Qm q) x (5 * Qm q + 2) = 0 := d3
        rw [addD_at (by decide)] at d1 d2 d3
        exact ⟨d1, d2, d3⟩
    · have o := c1 i (by omega)
      refine ⟨fun j hj => ?_, fun c => o.2 ?_⟩
      · show (addD q (Qm q) x (5 * i + j)).toInt.natAbs ≤ mm
        rw [addD_no (by omega) z]
        exact o.1 j hj
      · obtain ⟨d1, d2, d3⟩ := c
        have d1 : addD q (Qm q) x (5 * i + 0) = 0 := d1
        have d2 : addD q (Qm q) x (5 * i + 1) = 0 := d2
        have d3 : addD q (Qm q) x (5 * i + 2) = 0 := d3
        rw [addD_no (by decide) z] at d1 d2 d3
        exact ⟨d1, d2, d3⟩
  · show _ ↔ P T ∧ R T
    rw [← c2 T hT, ← hr T hT, ← bk_new (q := q)]
    constructor
    · intro y
      exact ⟨fun i hi => by rw [← bk_old hi]; exact y i (show i < Qm q + 1 by omega), y (Qm q) (show Qm q < Qm q + 1 by omega)⟩
    · rintro ⟨y1, y2⟩ i hi
      have hi : i < Qm q + 1 := hi
      by_cases z : i = Qm q
      · rw [z]
        exact y2
      · rw [bk_old (by omega)]
        exact y1 i (by omega)
/-- a row of literals: the edges at a node, as far as they are read -/
def litP (mm : Nat) (at' : Nat → Prop) (x : Nat → Int32) (i c : Nat) : Prop := (∀ T, T < 2 ^ mm → (bk x mm T 0 = false ↔ ∃ j, j < i ∧ T.testBit j = true ∧ at' j)) ∧ (∀ k, c ≤ k → k < 5 → x k = 0) ∧ ∀ k, k < c → ∃ j, j < mm ∧ x k = nI (j + 1)
theorem lit_0 {mm : Nat} {at' : Nat → Prop} {i : Nat} (h : ∀ j, j < i → ¬ at' j) : litP mm at' (five 0 0 0 0 0) i 0 := by
  have five0 : ∀ c, c < 5 → five 0 0 0 0 0 c = (0 : Int32) := fun c hc => by
    rcases (show c = 0 ∨ c = 1 ∨ c = 2 ∨ c = 3 ∨ c = 4 by omega) with e | e | e | e | e <;> subst e <;> rfl
  refine ⟨fun T _ => ⟨fun z => ?_, fun ⟨j, j1, _, j3⟩ => absurd j3 (h j j1)⟩, fun k _ hk => five0 k hk, fun k hk => absurd hk (Nat.not_lt_zero _)⟩
  obtain ⟨k, k3, e⟩ := bk_iff.mp z
  rw [bkI_0 (by rw [Nat.mul_zero, Nat.zero_add]; exact five0 k (by omega))] at e
  cases e
theorem lit_up {mm : Nat} {at' : Nat → Prop} {x : Nat → Int32} {i c : Nat} (hm : mm ≤ 6) (h : litP mm at' x i c) (hc : c < 3) (hi : i < mm) (ha : at' i) : litP mm at' (va_up x c (x c + nI (i + 1))) (i + 1) (c + 1) := by
  obtain ⟨h1, h2, h3⟩ := h
  have xc : x c = 0 := h2 c (Nat.le_refl _) (by omega)
  rw [xc, Int32.zero_add]
  refine ⟨fun T hT => ?_, fun k hk k5 => by rw [mUp_ne _ _ (by omega)]; exact h2 k (by omega) k5, fun k hk => ?_⟩
  · have nw : bkI (va_up x c (nI (i + 1))) mm T 0 c = !T.testBit i := bkI_p hm hi (by rw [Nat.mul_zero, Nat.zero_add, mUp_eq])
    have od : ∀ k, k ≠ c → bkI (va_up x c (nI (i + 1))) mm T 0 k = bkI x mm T 0 k := fun k hk => bkI_c (by rw [Nat.mul_zero, Nat.zero_add, mUp_ne _ _ hk])
    have oc : bkI x mm T 0 c = true := bkI_0 (by rw [Nat.mul_zero, Nat.zero_add]; exact xc)
    have split : bk (va_up x c (nI (i + 1))) mm T 0 = false ↔ bk x mm T 0 = false ∨ T.testBit i = true := by
      rw [bk_iff, bk_iff]
      constructor
      · rintro ⟨k, k3, e⟩
        by_cases z : k = c
        · rw [z, nw, Bool.not_eq_false'] at e
          exact Or.inr e
        · rw [od k z] at e
          exact Or.inl ⟨k, k3, e⟩
      · rintro (⟨k, k3, e⟩ | e)
        · refine ⟨k, k3, ?_⟩
          rw [od k (fun z => by rw [z, oc] at e; cases e)]
          exact e
        · exact ⟨c, hc, by rw [nw, e]; rfl⟩
    rw [split, h1 T hT]
    constructor
    · rintro (⟨j, j1, j2⟩ | e)
      · exact ⟨j, by omega, j2⟩
      · exact ⟨i, by omega, e, ha⟩
    · rintro ⟨j, j1, j2, j3⟩
      by_cases z : j = i
      · rw [z] at j2
        exact Or.inr j2
      · exact Or.inl ⟨j, by omega, j2, j3⟩
  · by_cases z : k = c
    · rw [z, mUp_eq]
      exact ⟨i, hi, rfl⟩
    · rw [mUp_ne _ _ z]
      exact h3 k (by omega)
theorem lit_no {mm : Nat} {at' : Nat → Prop} {x : Nat → Int32} {i c : Nat} (h : litP mm at' x i c) (ha : ¬ at' i) : litP mm at' x (i + 1) c := ⟨fun T hT => (h.1 T hT).trans ⟨fun ⟨j, j1, j2⟩ => ⟨j, by omega, j2⟩, fun ⟨j, j1, j2, j3⟩ => ⟨j, by
  by_cases z : j = i
  · rw [z] at j3
    exact absurd j3 ha
  · omega, j2, j3⟩⟩, h.2.1, h.2.2⟩
theorem lit_rw {mm : Nat} {at' : Nat → Prop} {x : Nat → Int32} {i c : Nat} (hm : mm ≤ 6) (h : litP mm at' x i c) (h1 : 1 ≤ c) : rw4 mm x := by
  refine ⟨fun j hj => ?_, fun z => ?_⟩
  · by_cases z : j < c
    · obtain ⟨a, a1, a2⟩ := h.2.2 j z
      rw [a2, nI_toInt (by omega)]
      omega
    · rw [h.2.1 j (by omega) (by omega)]
      exact Nat.zero_le _
  · obtain ⟨a, a1, a2⟩ := h.2.2 0 h1
    rw [z.1] at a2
    have := congrArg Int32.toInt a2
    rw [nI_toInt (by omega)] at this
    have e0 : (0 : Int32).toInt = 0 := rfl
    omega
theorem T_addSome {F e s m b v : Nat} {d : Nat → Int32} {A B : Nat → Nat} {V : mV} {q : qT} {P : Nat → Prop} (hF : 64 ≤ F) (he : 256 ≤ e) (he2 : e < 540) (hm : m ≤ 6) (hs : s ≤ 9) (hv : v < s) (hq : enQ V e s m (nI b) d) (hd : ∀ i, i < m → d (5 * i) = nI (A i) ∧ d (5 * i + 1) = nI (B i) ∧ A i < s ∧ B i < s ∧ A i ≠ B i) (hQ : isQn V 544 q) (hS : sIn m q P) : mTo (mX4_addSomeEdge F e 544 (nI v) V) (fun p => (p.1 = 0 ∨ (p.1 = 1 ∧ ∃ q', isQn p.2 544 q' ∧ sIn m q' (fun T => P T ∧ ∃ j, j < m ∧ T.testBit j = true ∧ (A j = v ∨ B j = v)))) ∧ mAv (fun i => i = 544 ∨ i = 545) V p.2) := by
  have q16 := hS.2.2.2.1
  have fin0 : ∀ V3, mAv (fun i => i = 544 ∨ i = 545) V V3 → mTo (some ((0 : Int32), V3)) (fun p => (p.1 = 0 ∨ (p.1 = 1 ∧ ∃ q', isQn p.2 544 q' ∧ sIn m q' (fun T => P T ∧ ∃ j, j < m ∧ T.testBit j = true ∧ (A j = v ∨ B j = v)))) ∧ mAv (fun i => i = 544 ∨ i = 545) V p.2) := fun V3 f => mTo.ret ⟨Or.inl rfl, f⟩
  have go : ∀ k', (∀ i c V3, 2 * m + 1 ≤ 2 * i + k' → i ≤ m → c ≤ i → enQ V3 e s m (nI b) d → mAv (fun i => i = 544 ∨ i = 545) V V3 → (c = 0 → isQn V3 544 q ∧ ∀ j, j < i → ¬ (A j = v ∨ B j = v)) → (1 ≤ c → c ≤ 3 → (Qm q ≤ 15 → ∃ x, isQn V3 544 (exQ q x) ∧ litP m (fun j => A j = v ∨ B j = v) x i c) ∧ (Qm q = 16 → isQn V3 544 q)) → mTo (mX4_addSomeEdge_go F k' 0 e 544 (nI v) (nI (Qm q)) (nI c) (nI i) V3) (fun p => (p.1 = 0 ∨ (p.1 = 1 ∧ ∃ q', isQn p.2 544 q' ∧ sIn m q' (fun T => P T ∧ ∃ j, j < m ∧ T.testBit j = true ∧ (A j = v ∨ B j = v)))) ∧ mAv (fun i => i = 544 ∨ i = 545) V p.2)) ∧ (∀ i c V3, 2 * m ≤ 2 * i + k' → i < m → c ≤ i → (A i = v ∨ B i = v) → enQ V3 e s m (nI b) d → mAv (fun i => i = 544 ∨ i = 545) V V3 → (c = 0 → isQn V3 544 q ∧ ∀ j, j < i → ¬ (A j = v ∨ B j = v)) → (1 ≤ c → c ≤ 3 → (Qm q ≤ 15 → ∃ x, isQn V3 544 (exQ q x) ∧ litP m (fun j => A j = v ∨ B j = v) x i c) ∧ (Qm q = 16 → isQn V3 544 q)) → mTo (mX4_addSomeEdge_go F k' 1 e 544 (nI v) (nI (Qm q)) (nI c) (nI i) V3) (fun p => (p.1 = 0 ∨ (p.1 = 1 ∧ ∃ q', isQn p.2 544 q' ∧ sIn m q' (fun T => P T ∧ ∃ j, j < m ∧ T.testBit j = true ∧ (A j = v ∨ B j = v)))) ∧ mAv (fun i => i = 544 ∨ i = 545) V p.2)) := by
    intro k'
    induction k' with
    | zero => exact ⟨fun i c V3 h1 h2 => by omega, fun i c V3 h1 h2 => by omega⟩
    | succ k' ih =>
      obtain ⟨ih0, ih1⟩ := ih
      refine ⟨fun i c V3 k1 k2 kc q3 f3 c0 c1 => ?_, fun i c V3 k1 k2 kc hat q3 f3 c0 c1 => ?_⟩
      · rw [mX4_addSomeEdge_go, if_pos rfl]
        unfold mX4_addSomeEdge_b0
        refine mTo.le q3.2.1 rfl (by omega) (by omega) (fun y => ?_) (fun y => ?_)
        · have ei : i = m := by omega
          subst ei
          refine mTo.ltI (b := 1) rfl rfl (by omega) (by decide) (fun _ => fin0 V3 f3) (fun cp => ?_)
          refine mTo.ltI (a := 3) rfl rfl (by decide) (by omega) (fun _ => fin0 V3 f3) (fun c3 => ?_)
          refine mTo.ret ⟨Or.inr ⟨rfl, ?_⟩, f3⟩
          obtain ⟨g1, g2⟩ := c1 cp c3
          rcases Nat.lt_or_ge (Qm q) 16 with z | z
          · obtain ⟨x, x1, x2⟩ := g1 (by omega)
            exact ⟨exQ q x, x1, hS.add (by omega) (lit_rw hm x2 cp) x2.1⟩
          · exact ⟨q, g2 (by omega), hS.full (by omega)⟩
        · obtain ⟨x0, x1, xa, xb, xne⟩ := hd i y
          refine T_iN (T_item q3.2.1 (by omega) y (show 0 < 5 by decide) rfl ((q3.2.2.2 _ (by omega)).trans x0)) ?_
          refine mTo.eqI rfl rfl (by omega) (by omega) (fun ea => ih1 i c V3 (by omega) y kc (Or.inl ea) q3 f3 c0 c1) (fun na => ?_)
          refine T_iN (T_item q3.2.1 (by omega) y (show 1 < 5 by decide) rfl ((q3.2.2.2 _ (by omega)).trans x1)) ?_
          refine mTo.eqI rfl rfl (by omega) (by omega) (fun eb => ih1 i c V3 (by omega) y kc (Or.inr eb) q3 f3 c0 c1) (fun nb => ?_)
          have no : ¬ (A i = v ∨ B i = v) := fun z => z.elim na nb
          rw [nI_1]
          refine mTo.lt (ih0 (i + 1) c V3 (by omega) (by omega) (by omega) q3 f3 (fun z => ⟨(c0 z).1, fun j hj => ?_⟩) (fun z1 z2 => ⟨fun z3 => ?_, (c1 z1 z2).2⟩))
          · by_cases ej : j = i
            · rw [ej]
              exact no
            · exact (c0 z).2 j (by omega)
          · obtain ⟨x, g1, g2⟩ := (c1 z1 z2).1 z3
            exact ⟨x, g1, lit_no g2 no⟩
      · have next : ∀ c' V4, c' ≤ i + 1 → 1 ≤ c' → enQ V4 e s m (nI b) d → mAv (fun i => i = 544 ∨ i = 545) V V4 → (c' ≤ 3 → (Qm q ≤ 15 → ∃ x, isQn V4 544 (exQ q x) ∧ litP m (fun j => A j = v ∨ B j = v) x (i + 1) c') ∧ (Qm q = 16 → isQn V4 544 q)) → mTo (mX4_addSomeEdge_go F k' 0 e 544 (nI v) (nI (Qm q)) (nI c') (nI (i + 1)) V4) (fun p => (p.1 = 0 ∨ (p.1 = 1 ∧ ∃ q', isQn p.2 544 q' ∧ sIn m q' (fun T => P T ∧ ∃ j, j < m ∧ T.testBit j = true ∧ (A j = v ∨ B j = v)))) ∧ mAv (fun i => i = 544 ∨ i = 545) V p.2) := fun c' V4 h1 h2 q4 f4 h => ih0 (i + 1) c' V4 (by omega) (by omega) h1 q4 f4 (fun z => by omega) (fun _ z => h z)
        have put : ∀ c V3, c < 3 → enQ V3 e s m (nI b) d → mAv (fun i => i = 544 ∨ i = 545) V V3 → (Qm q ≤ 15 → ∃ x, isQn V3 544 (exQ q x) ∧ litP m (fun j => A j = v ∨ B j = v) x i c) → (Qm q = 16 → isQn V3 544 q) → c ≤ i → mTo (mBW (mX3_addTo F 544 (nI (Qm q)) (nI c) (nI (i + 1)) V3) fun v36 V37 => (mLt (nI (c + 1)) fun x41 => (mLt (nI (i + 1)) fun x42 => (mX4_addSomeEdge_go F k' 0 e 544 (nI v) (nI (Qm q)) (x41) (x42) V37)))) (fun p => (p.1 = 0 ∨ (p.1 = 1 ∧ ∃ q', isQn p.2 544 q' ∧ sIn m q' (fun T => P T ∧ ∃ j, j < m ∧ T.testBit j = true ∧ (A j = v ∨ B j = v)))) ∧ mAv (fun i => i = 544 ∨ i = 545) V p.2) := fun c V3 c3 q3 f3 g1 g2 kc => by
          rcases Nat.lt_or_ge (Qm q) 16 with z | z
          · obtain ⟨x, x1, x2⟩ := g1 (by omega)
            refine mTo.W (T_addToX (F := F) (c := c) (m := Qm q) (v := nI (i + 1)) x1 rfl (by omega) (by omega)) (fun _ V4 _ h => mTo.lt (mTo.lt ?_))
            obtain ⟨y1, y2⟩ := h
            have y2 : mAv (fun i => i = 544 ∨ i = 545) V3 V4 := y2
            exact next (c + 1) V4 (by omega) (by omega) (q3.mv y2 (by omega) (by omega)) (mAv.tr f3 y2 (fun _ z => z)) (fun _ => ⟨fun _ => ⟨_, y1, lit_up hm x2 c3 k2 hat⟩, fun z2 => by omega⟩)
          · have e16 : Qm q = 16 := by omega
            refine T_iW (a := ()) (b := V3) (by rw [e16]; exact T_addToFull (by omega)) (mTo.lt (mTo.lt ?_))
            exact next (c + 1) V3 (by omega) (by omega) q3 f3 (fun _ => ⟨fun z2 => by omega, fun _ => g2 e16⟩)
        rw [mX4_addSomeEdge_go, if_neg (by decide), if_pos rfl]
        unfold mX4_addSomeEdge_b1
        rw [nI_1, nI_1]
        refine mTo.eqI (b := 0) rfl rfl (by omega) (by decide) (fun ec => ?_) (fun nc => ?_)
        · subst ec
          obtain ⟨z1, z2⟩ := c0 rfl
          have body : ∀ V4, enQ V4 e s m (nI b) d → mAv (fun i => i = 544 ∨ i = 545) V V4 → (Qm q ≤ 15 → ∃ x, isQn V4 544 (exQ q x) ∧ litP m (fun j => A j = v ∨ B j = v) x i 0) → (Qm q = 16 → isQn V4 544 q) → mTo (if (3 : Int32) ≤ nI 0 then (mLt (nI (0 + 1)) fun x34 => (mLt (nI (i + 1)) fun x35 => (mX4_addSomeEdge_go F k' 0 e 544 (nI v) (nI (Qm q)) (x34) (x35) V4))) else (mBW (mX3_addTo F 544 (nI (Qm q)) (nI 0) (nI (i + 1)) V4) fun v36 V37 => (mLt (nI (0 + 1)) fun x41 => (mLt (nI (i + 1)) fun x42 => (mX4_addSomeEdge_go F k' 0 e 544 (nI v) (nI (Qm q)) (x41) (x42) V37))))) (fun p => (p.1 = 0 ∨ (p.1 = 1 ∧ ∃ q', isQn p.2 544 q' ∧ sIn m q' (fun T => P T ∧ ∃ j, j < m ∧ T.testBit j = true ∧ (A j = v ∨ B j = v)))) ∧ mAv (fun i => i = 544 ∨ i = 545) V p.2) := fun V4 q4 f4 g1 g2 => by
            rw [if_neg (by decide)]
            exact put 0 V4 (by decide) q4 f4 g1 g2 (Nat.zero_le _)
          rcases Nat.lt_or_ge (Qm q) 16 with z | z
          · refine mTo.W (T_addItem z1 (by omega)) (fun _ V4 _ h => ?_)
            obtain ⟨y1, y2⟩ := h
            have y2 : mAv (fun i => i = 544 ∨ i = 545) V3 V4 := y2
            exact body V4 (q3.mv y2 (by omega) (by omega)) (mAv.tr f3 y2 (fun _ z => z)) (fun _ => ⟨_, y1, lit_0 z2⟩) (fun z2 => by omega)
          · have e16 : Qm q = 16 := by omega
            exact T_iW (T_addFull z1 e16) (body V3 q3 f3 (fun z2 => by omega) (fun _ => z1))
        · refine mTo.le (a := 3) rfl rfl (by decide) (by omega) (fun c3 => mTo.lt (mTo.lt ?_)) (fun c3 => ?_)
          · exact next (c + 1) V3 (by omega) (by omega) q3 f3 (fun z => by omega)
          · obtain ⟨g1, g2⟩ := c1 (by omega) (by omega)
            exact put c V3 c3 q3 f3 g1 g2 kc
  unfold mX4_addSomeEdge mX4_addSomeEdge_s
  rw [hQ.2.2.2.2.2.2.1]
  exact mTo.lt ((go F).1 0 0 V (by omega) (Nat.zero_le _) (Nat.le_refl _) hq mAv.rf (fun _ => ⟨hQ, fun j hj => absurd hj (Nat.not_lt_zero _)⟩) (fun z => by omega))
end
