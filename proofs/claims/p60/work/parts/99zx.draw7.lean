/-! THE PURE PART, drawings: classes of goings and of nodes; what is due, in numbers. -/
section
noncomputable def fstG (G : Nat → Bool) (R : Nat → Nat → Prop) (i : Nat) : Bool := @decide (G i = true ∧ ∀ j, j < i → G j = true → ¬ R j i) (Classical.propDecidable _)
theorem fstG_t {G : Nat → Bool} {R : Nat → Nat → Prop} {i : Nat} : fstG G R i = true ↔ G i = true ∧ ∀ j, j < i → G j = true → ¬ R j i := @decide_eq_true_iff _ (Classical.propDecidable _)
/-- the classes of those in G -/
noncomputable def clG (G : Nat → Bool) (R : Nat → Nat → Prop) (n : Nat) : Nat := cnt (fstG G R) n
theorem fst_of {G : Nat → Bool} {R : Nat → Nat → Prop} (h : eqvR R) : ∀ n a, a ≤ n → G a = true → ∃ r, r ≤ a ∧ R r a ∧ fstG G R r = true := by
  intro n
  induction n with
  | zero =>
    intro a ha hg
    exact ⟨a, Nat.le_refl _, h.1 a, fstG_t.mpr ⟨hg, fun j hj => by omega⟩⟩
  | succ n ih =>
    intro a ha hg
    by_cases c : ∃ j, j < a ∧ G j = true ∧ R j a
    · obtain ⟨j, j1, j2, j3⟩ := c
      obtain ⟨r, r1, r2, r3⟩ := ih j (by omega) j2
      exact ⟨r, by omega, h.2.2 _ _ _ r2 j3, r3⟩
    · exact ⟨a, Nat.le_refl _, h.1 a, fstG_t.mpr ⟨hg, fun j hj gj rj => c ⟨j, hj, gj, rj⟩⟩⟩
theorem clG_le {G H : Nat → Bool} {R S T : Nat → Nat → Prop} {n m : Nat} (hS : eqvR S) (h1 : ∀ x, x < n → G x = true → ∃ y, y < m ∧ H y = true ∧ T x y) (h2 : ∀ x x' y y', x < n → x' < n → G x = true → G x' = true → T x y → T x' y' → S y y' → R x x') : clG G R n ≤ clG H S m := by
  have h3 : ∀ x, ∃ r, x < n → G x = true → r < m ∧ fstG H S r = true ∧ ∃ y, T x y ∧ S r y := by
    intro x
    by_cases c : x < n ∧ G x = true
    · obtain ⟨y, y1, y2, y3⟩ := h1 x c.1 c.2
      obtain ⟨r, r1, r2, r3⟩ := fst_of hS y y (Nat.le_refl _) y2
      exact ⟨r, fun _ _ => ⟨by omega, r3, y, y3, r2⟩⟩
    · exact ⟨0, fun a b => absurd ⟨a, b⟩ c⟩
  refine cnt_inj (f := fun x => Classical.choose (h3 x)) n (fun i hi hx => ?_) (fun i j hi hj hx hy e => ?_)
  · have := Classical.choose_spec (h3 i) hi (fstG_t.mp hx).1
    exact ⟨this.1, this.2.1⟩
  · obtain ⟨g1, f1⟩ := fstG_t.mp hx
    obtain ⟨g2, f2⟩ := fstG_t.mp hy
    obtain ⟨_, _, y, t1, s1⟩ := Classical.choose_spec (h3 i) hi g1
    obtain ⟨_, _, y', t2, s2⟩ := Classical.choose_spec (h3 j) hj g2
    have e : Classical.choose (h3 i) = Classical.choose (h3 j) := e
    rw [e] at s1
    have sy := hS.2.2 _ _ _ (hS.2.1 _ _ s1) s2
    rcases Nat.lt_trichotomy i j with l | l | l
    · exact absurd (h2 i j y y' hi hj g1 g2 t1 t2 sy) (f2 i l g1)
    · exact l
    · exact absurd (h2 j i y' y hj hi g2 g1 t2 t1 (hS.2.1 _ _ sy)) (f1 j l g2)
theorem cls_rel {G H : Nat → Bool} {R S T : Nat → Nat → Prop} {n m : Nat} (hR : eqvR R) (hS : eqvR S) (h1 : ∀ x, x < n → G x = true → ∃ y, y < m ∧ H y = true ∧ T x y) (h2 : ∀ y, y < m → H y = true → ∃ x, x < n ∧ G x = true ∧ T x y) (h3 : ∀ x x' y y', x < n → x' < n → y < m → y' < m → G x = true → G x' = true → H y = true → H y' = true → T x y → T x' y' → (R x x' ↔ S y y')) : clG G R n = clG H S m := by
  refine Nat.le_antisymm ?_ ?_
  · exact clG_le (T := fun x y => T x y ∧ y < m ∧ H y = true) hS (fun x hx hg => by
      obtain ⟨y, a, b, c⟩ := h1 x hx hg
      exact ⟨y, a, b, c, a, b⟩) (fun x x' y y' hx hx' g g' t t' s => (h3 x x' y y' hx hx' t.2.1 t'.2.1 g g' t.2.2 t'.2.2 t.1 t'.1).mpr s)
  · exact clG_le (T := fun y x => T x y ∧ x < n ∧ G x = true) hR (fun y hy hg => by
      obtain ⟨x, a, b, c⟩ := h2 y hy hg
      exact ⟨x, a, b, c, a, b⟩) (fun y y' x x' hy hy' g g' t t' s => (h3 x x' y y' t.2.1 t'.2.1 hy hy' t.2.2 t'.2.2 g g' t.1 t'.1).mp s)
theorem cls_G {G : Nat → Bool} {R : Nat → Nat → Prop} {n : Nat} (hn : ∀ x y, R x y → x ≠ y → G x = true ∧ G y = true) : clsN R n = cnt (fun i => !G i) n + clG G R n := by
  have e : ∀ i, frN R i = (!G i || fstG G R i) := fun i => by
    rw [Bool.eq_iff_iff, frN_t, Bool.or_eq_true, fstG_t, Bool.not_eq_true']
    constructor
    · intro h
      cases g : G i with
      | false => exact Or.inl rfl
      | true => exact Or.inr ⟨rfl, fun j hj _ => h j hj⟩
    · rintro (h | ⟨h1, h2⟩) j hj r
      · have := (hn j i r (by omega)).2
        rw [h] at this
        exact absurd this (by decide)
      · exact h2 j hj (hn j i r (by omega)).1 r
  have o := cnt_or (X := fun i => !G i) (Y := fstG G R) n
  have z : cnt (fun i => !G i && fstG G R i) n = 0 := cnt_0 n (fun i _ => by
    cases g : G i with
    | false =>
      cases f : fstG G R i with
      | false => rfl
      | true =>
        have := (fstG_t.mp f).1
        rw [g] at this
        exact absurd this (by decide)
    | true => rfl)
  unfold clsN clG
  rw [cnt_eq n (fun i _ => e i)]
  omega
theorem cnt_ad2 {X : Nat → Bool} {a : Nat} : ∀ b, cnt X (a + b) = cnt X a + cnt (fun i => X (a + i)) b
  | 0 => rfl
  | b + 1 => by
    have ih := cnt_ad2 (X := X) (a := a) b
    show cnt X (a + b) + (if X (a + b) = true then 1 else 0) = cnt X a + (cnt (fun i => X (a + i)) b + (if X (a + b) = true then 1 else 0))
    omega
theorem cnt_nt2 {X : Nat → Bool} : ∀ n, cnt (fun i => !X i) n + cnt X n = n
  | 0 => rfl
  | n + 1 => by
    have ih := cnt_nt2 (X := X) n
    unfold cnt
    cases X n <;> simp <;> omega
def gngb (nb : Nat → Nat) (x : Nat) : Bool := decide (x < 49) && (nb (x / 7)).testBit (x % 7)
theorem gngb_t {nb : Nat → Nat} {x : Nat} : gngb nb x = true ↔ gngB nb x := by
  unfold gngb gngB
  rw [Bool.and_eq_true, decide_eq_true_iff]
/-- the number of neighbours -/
def degN (nb : Nat → Nat) (u : Nat) : Nat := cnt (fun v => (nb u).testBit v) 7
def hasE (nb : Nat → Nat) (u : Nat) : Bool := decide (0 < degN nb u)
def sdN (nb : Nat → Nat) : Nat → Nat
  | 0 => 0
  | k + 1 => sdN nb k + degN nb k
theorem sdN_e {nb : Nat → Nat} : ∀ k, k ≤ 7 → cnt (gngb nb) (7 * k) = sdN nb k
  | 0, _ => rfl
  | k + 1, h => by
    have ih := sdN_e (nb := nb) k (by omega)
    rw [Nat.mul_succ, cnt_ad2, ih]
    show _ = sdN nb k + degN nb k
    unfold degN
    rw [cnt_eq (X := fun i => gngb nb (7 * k + i)) (Y := fun v => (nb k).testBit v) 7 (fun i hi => ?_)]
    show gngb nb (7 * k + i) = (nb k).testBit i
    unfold gngb
    rw [show (7 * k + i) / 7 = k by omega, show (7 * k + i) % 7 = i by omega, decide_eq_true (show 7 * k + i < 49 by omega), Bool.true_and]
theorem hasE_t {nb : Nat → Nat} {u : Nat} : hasE nb u = true ↔ ∃ v, v < 7 ∧ (nb u).testBit v = true := by
  unfold hasE
  rw [decide_eq_true_iff]
  exact ⟨fun h => cnt_ex 7 h, fun ⟨v, h1, h2⟩ => cnt_pos (X := fun v => (nb u).testBit v) h2 h1⟩
/-- they hang together -/
def conE (nb : Nat → Nat) (u v : Nat) : Prop := ∀ R : Nat → Nat → Prop, eqvR R → (∀ a b, a < 7 → b < 7 → (nb a).testBit b = true → R a b) → R u v
theorem con_eqv {nb : Nat → Nat} : eqvR (conE nb) := ⟨fun x R h _ => h.1 x, fun x y w R h a => h.2.1 _ _ (w R h a), fun x y z w1 w2 R h a => h.2.2 _ _ _ (w1 R h a) (w2 R h a)⟩
noncomputable def ptE (nb : Nat → Nat) : Nat := clG (hasE nb) (conE nb) 7
def ndE (nb : Nat → Nat) : Nat := cnt (hasE nb) 7
noncomputable def wkE (nb ρ : Nat → Nat) : Nat := clG (gngb nb) (orbN (fun x => ρ (alE nb x))) 49
theorem eq_eqv : eqvR (fun x y : Nat => x = y) := ⟨fun _ => rfl, fun _ _ h => h.symm, fun _ _ _ h g => h.trans g⟩
theorem clG_eq {G : Nat → Bool} {n : Nat} : clG G (fun x y => x = y) n = cnt G n := by
  unfold clG
  refine cnt_eq n (fun i _ => ?_)
  rw [Bool.eq_iff_iff, fstG_t]
  exact ⟨fun h => h.1, fun h => ⟨h, fun j hj _ e => by omega⟩⟩
theorem alE_g {nb : Nat → Nat} (hs : symB nb) {x : Nat} (h : gngB nb x) : alE nb x = 7 * (x % 7) + x / 7 ∧ gngB nb (alE nb x) := by
  have e : alE nb x = 7 * (x % 7) + x / 7 := if_pos h
  refine ⟨e, ?_⟩
  rw [e]
  obtain ⟨h1, h2⟩ := h
  refine ⟨by omega, ?_⟩
  rw [show (7 * (x % 7) + x / 7) / 7 = x % 7 by omega, show (7 * (x % 7) + x / 7) % 7 = x / 7 by omega, ← hs (x / 7) (x % 7) (by omega) (by omega)]
  exact h2
theorem orb_fix {f : Nat → Nat} {x : Nat} (h : f x = x) : ∀ k, itA f k x = x
  | 0 => rfl
  | k + 1 => by
    show f (itA f k x) = x
    rw [orb_fix h k, h]
/-- what is no going is fixed: its class is itself alone -/
theorem orb_al {f : Nat → Nat} {G : Nat → Bool} {N : Nat} (hp : prmN f N) (hf : ∀ x, G x = false → f x = x) {x y : Nat} (h : orbN f x y) (ne : x ≠ y) : G x = true ∧ G y = true := by
  constructor
  · cases g : G x with
    | true => rfl
    | false =>
      obtain ⟨k, hk⟩ := h
      rw [orb_fix (hf x g) k] at hk
      exact absurd hk ne
  · cases g : G y with
    | true => rfl
    | false =>
      obtain ⟨k, hk⟩ := (orb_eqv hp).2.1 _ _ h
      rw [orb_fix (hf y g) k] at hk
      exact absurd hk.symm ne
theorem gng_n {nb : Nat → Nat} {x : Nat} (h : gngb nb x = false) : ¬ gngB nb x := fun g => by
  rw [gngb_t.mpr g] at h
  exact absurd h (by decide)
theorem al_two {f : Nat → Nat} (h : ∀ x, f (f x) = x) {x y : Nat} : orbN f x y ↔ y = x ∨ y = f x := by
  constructor
  · rintro ⟨k, hk⟩
    have : ∀ k, itA f k x = x ∨ itA f k x = f x := by
      intro k
      induction k with
      | zero => exact Or.inl rfl
      | succ k ih =>
        rcases ih with e | e
        · exact Or.inr (by show f (itA f k x) = f x; rw [e])
        · exact Or.inl (by show f (itA f k x) = x; rw [e, h])
    rw [← hk]
    exact this k
  · rintro (e | e)
    · exact ⟨0, e.symm⟩
    · exact ⟨1, e.symm⟩
/-- each edge is two goings -/
theorem al_cnt {nb : Nat → Nat} (hs : symB nb) (hl : ∀ u, u < 7 → (nb u).testBit u = false) : 2 * clG (gngb nb) (orbN (alE nb)) 49 = cnt (gngb nb) 49 := by
  have ne : ∀ x, gngB nb x → alE nb x ≠ x := fun x g e => by
    have := (alE_g hs g).1
    have h := hl (x / 7) (by have := g.1; omega)
    have g2 := g.2
    rw [show x % 7 = x / 7 by omega, h] at g2
    exact absurd g2 (by decide)
  have f : ∀ x, fstG (gngb nb) (orbN (alE nb)) x = (gngb nb x && decide (x < alE nb x)) := fun x => by
    rw [Bool.eq_iff_iff, fstG_t, Bool.and_eq_true, decide_eq_true_iff]
    constructor
    · rintro ⟨g, h⟩
      refine ⟨g, ?_⟩
      have g' := alE_g hs (gngb_t.mp g)
      rcases Nat.lt_trichotomy x (alE nb x) with l | l | l
      · exact l
      · exact absurd l.symm (ne x (gngb_t.mp g))
      · exact absurd ((al_two (alE_two hs)).mpr (Or.inr (alE_two hs x).symm)) (h _ l (gngb_t.mpr g'.2))
    · rintro ⟨g, h⟩
      refine ⟨g, fun j hj gj r => ?_⟩
      rcases (al_two (alE_two hs)).mp r with e | e
      · omega
      · rw [e, alE_two hs] at h
        omega
  have o := cnt_or (X := fun x => gngb nb x && decide (x < alE nb x)) (Y := fun x => gngb nb x && decide (alE nb x < x)) 49
  have z : cnt (fun x => (gngb nb x && decide (x < alE nb x)) && (gngb nb x && decide (alE nb x < x))) 49 = 0 := cnt_0 49 (fun i _ => by
    cases gngb nb i with
    | false => rfl
    | true =>
      by_cases c : i < alE nb i
      · rw [decide_eq_true c, decide_eq_false (show ¬ alE nb i < i by omega)]; rfl
      · rw [decide_eq_false c]; rfl)
  have w : cnt (fun x => (gngb nb x && decide (x < alE nb x)) || (gngb nb x && decide (alE nb x < x))) 49 = cnt (gngb nb) 49 := cnt_eq 49 (fun i _ => by
    cases g : gngb nb i with
    | false => rfl
    | true =>
      have := ne i (gngb_t.mp g)
      by_cases c : i < alE nb i
      · rw [decide_eq_true c]; rfl
      · rw [decide_eq_false c, decide_eq_true (show alE nb i < i by omega)]; rfl)
  have i1 := cnt_inj (X := fun x => gngb nb x && decide (x < alE nb x)) (Y := fun x => gngb nb x && decide (alE nb x < x)) (f := alE nb) (m := 49) 49 (fun i hi h => by
    rw [Bool.and_eq_true, decide_eq_true_iff] at h ⊢
    obtain ⟨g, l⟩ := h
    have g' := (alE_g hs (gngb_t.mp g)).2
    exact ⟨g'.1, gngb_t.mpr g', by rw [alE_two hs]; exact l⟩) (fun i j _ _ _ _ e => by rw [← alE_two hs i, e, alE_two hs])
  have i2 := cnt_inj (X := fun x => gngb nb x && decide (alE nb x < x)) (Y := fun x => gngb nb x && decide (x < alE nb x)) (f := alE nb) (m := 49) 49 (fun i hi h => by
    rw [Bool.and_eq_true, decide_eq_true_iff] at h ⊢
    obtain ⟨g, l⟩ := h
    have g' := (alE_g hs (gngb_t.mp g)).2
    exact ⟨g'.1, gngb_t.mpr g', by rw [alE_two hs]; exact l⟩) (fun i j _ _ _ _ e => by rw [← alE_two hs i, e, alE_two hs])
  have e : clG (gngb nb) (orbN (alE nb)) 49 = cnt (fun x => gngb nb x && decide (x < alE nb x)) 49 := cnt_eq 49 (fun x _ => f x)
  omega
theorem rot_div {ρ : Nat → Nat} (h : ∀ x, ρ x / 7 = x / 7) (x : Nat) : ∀ k, itA ρ k x / 7 = x / 7
  | 0 => rfl
  | k + 1 => by
    show ρ (itA ρ k x) / 7 = _
    rw [h, rot_div h x k]
theorem rot_cnt {nb ρ : Nat → Nat} (hr : rotE nb ρ) : clG (gngb nb) (orbN ρ) 49 = ndE nb := by
  unfold ndE
  rw [← clG_eq]
  refine cls_rel (T := fun x u => x / 7 = u) (orb_eqv hr.1) eq_eqv (fun x hx g => ?_) (fun u hu h => ?_) (fun x x' u u' hx hx' hu hu' g g' h h' t t' => ?_)
  · obtain ⟨g1, g2⟩ := gngb_t.mp g
    exact ⟨x / 7, by omega, hasE_t.mpr ⟨x % 7, by omega, g2⟩, rfl⟩
  · obtain ⟨v, v1, v2⟩ := hasE_t.mp h
    refine ⟨7 * u + v, by omega, gngb_t.mpr ⟨by omega, ?_⟩, by omega⟩
    rw [show (7 * u + v) / 7 = u by omega, show (7 * u + v) % 7 = v by omega]
    exact v2
  · constructor
    · rintro ⟨k, hk⟩
      rw [← t, ← t', ← hk, rot_div hr.2.1]
    · intro e
      exact hr.2.2.2 x x' (gngb_t.mp g) (gngb_t.mp g') (by rw [t, t', e])
theorem gen_con {nb ρ : Nat → Nat} (hs : symB nb) (hr : rotE nb ρ) {x y : Nat} (gx : gngB nb x) (gy : gngB nb y) : genR (alE nb) ρ x y ↔ conE nb (x / 7) (y / 7) := by
  constructor
  · intro h
    refine h (fun a b => conE nb (a / 7) (b / 7)) ⟨fun a => con_eqv.1 _, fun a b => con_eqv.2.1 _ _, fun a b c => con_eqv.2.2 _ _ _⟩ (fun z => ?_) (fun z => ?_)
    · by_cases g : gngB nb z
      · rw [(alE_g hs g).1]
        intro R _ hR
        have := g.1
        rw [show (7 * (z % 7) + z / 7) / 7 = z % 7 by omega]
        exact hR _ _ (by omega) (by omega) g.2
      · rw [alE_n g]
        exact con_eqv.1 _
    · rw [hr.2.1]
      exact con_eqv.1 _
  · intro h
    have same : ∀ a b, gngB nb a → gngB nb b → a / 7 = b / 7 → genR (alE nb) ρ a b := fun a b ga gb e => orb_sub gen_eqv (fun z => gen_rh z) (hr.2.2.2 a b ga gb e)
    have := h (fun u v => u = v ∨ ∃ a b, gngB nb a ∧ gngB nb b ∧ a / 7 = u ∧ b / 7 = v ∧ genR (alE nb) ρ a b) ⟨fun u => Or.inl rfl, fun u v w => ?_, fun u v w w1 w2 => ?_⟩ (fun a b ha hb hab => ?_)
    · rcases this with e | ⟨a, b, ga, gb, ea, eb, w⟩
      · exact same x y gx gy e
      · exact gen_eqv.2.2 _ _ _ (gen_eqv.2.2 _ _ _ (same x a gx ga ea.symm) w) (same b y gb gy eb)
    · rcases w with e | ⟨a, b, ga, gb, ea, eb, w⟩
      · exact Or.inl e.symm
      · exact Or.inr ⟨b, a, gb, ga, eb, ea, gen_eqv.2.1 _ _ w⟩
    · rcases w1 with e | ⟨a, b, ga, gb, ea, eb, w⟩
      · rw [e]
        exact w2
      · rcases w2 with e | ⟨c, d, gc, gd, ec, ed, w'⟩
        · exact Or.inr ⟨a, b, ga, gb, ea, eb.trans e, w⟩
        · exact Or.inr ⟨a, d, ga, gd, ea, ed, gen_eqv.2.2 _ _ _ (gen_eqv.2.2 _ _ _ w (same b c gb gc (eb.trans ec.symm))) w'⟩
    · have ex : gngB nb (7 * a + b) := ⟨by omega, by rw [show (7 * a + b) / 7 = a by omega, show (7 * a + b) % 7 = b by omega]; exact hab⟩
      have := alE_g hs ex
      refine Or.inr ⟨7 * a + b, alE nb (7 * a + b), ex, this.2, by omega, by rw [this.1]; omega, gen_al _⟩
theorem pt_cnt {nb ρ : Nat → Nat} (hs : symB nb) (hr : rotE nb ρ) : clG (gngb nb) (genR (alE nb) ρ) 49 = ptE nb := by
  unfold ptE
  refine cls_rel (T := fun x u => x / 7 = u) gen_eqv con_eqv (fun x hx g => ?_) (fun u hu h => ?_) (fun x x' u u' hx hx' hu hu' g g' h h' t t' => ?_)
  · obtain ⟨g1, g2⟩ := gngb_t.mp g
    exact ⟨x / 7, by omega, hasE_t.mpr ⟨x % 7, by omega, g2⟩, rfl⟩
  · obtain ⟨v, v1, v2⟩ := hasE_t.mp h
    refine ⟨7 * u + v, by omega, gngb_t.mpr ⟨by omega, ?_⟩, by omega⟩
    rw [show (7 * u + v) / 7 = u by omega, show (7 * u + v) % 7 = v by omega]
    exact v2
  · rw [← t, ← t']
    exact gen_con hs hr (gngb_t.mp g) (gngb_t.mp g')
theorem gen_alone {nb ρ : Nat → Nat} (hs : symB nb) (hr : rotE nb ρ) {x y : Nat} (h : genR (alE nb) ρ x y) (ne : x ≠ y) : gngb nb x = true ∧ gngb nb y = true := by
  have := h (fun a b => a = b ∨ (gngB nb a ∧ gngB nb b)) ⟨fun a => Or.inl rfl, fun a b w => w.elim (fun e => Or.inl e.symm) (fun e => Or.inr ⟨e.2, e.1⟩), fun a b c w1 w2 => ?_⟩ (fun z => ?_) (fun z => ?_)
  · rcases this with e | e
    · exact absurd e ne
    · exact ⟨gngb_t.mpr e.1, gngb_t.mpr e.2⟩
  · rcases w1 with e | e
    · rw [e]; exact w2
    · rcases w2 with e' | e'
      · rw [← e']; exact Or.inr e
      · exact Or.inr ⟨e.1, e'.2⟩
  · by_cases g : gngB nb z
    · exact Or.inr ⟨g, (alE_g hs g).2⟩
    · exact Or.inl (alE_n g).symm
  · by_cases g : gngB nb z
    · by_cases g2 : gngB nb (ρ z)
      · exact Or.inr ⟨g, g2⟩
      · exact Or.inl (hr.1.2.2 _ _ (hr.2.2.1 _ g2)).symm
    · exact Or.inl (hr.2.2.1 _ g).symm
/-- the number of a drawing: edges less nodes and twice the parts, less the walks -/
theorem gnZ_num {nb ρ : Nat → Nat} (hs : symB nb) (hl : ∀ u, u < 7 → (nb u).testBit u = false) (hr : rotE nb ρ) : 2 * gnZ (alE nb) ρ 49 = (sdN nb 7 : Int) + 4 * (ptE nb : Int) - 2 * (ndE nb : Int) - 2 * (wkE nb ρ : Int) := by
  have hp := (alE_inv hs).1
  have n1 := cls_G (G := gngb nb) (R := genR (alE nb) ρ) (n := 49) (fun x y h ne => gen_alone hs hr h ne)
  have n2 := cls_G (G := gngb nb) (R := orbN (alE nb)) (n := 49) (fun x y h ne => orb_al hp (fun x g => alE_n (gng_n g)) h ne)
  have n3 := cls_G (G := gngb nb) (R := orbN ρ) (n := 49) (fun x y h ne => orb_al hr.1 (fun x g => hr.2.2.1 x (gng_n g)) h ne)
  have n4 := cls_G (G := gngb nb) (R := orbN (fun x => ρ (alE nb x))) (n := 49) (fun x y h ne => orb_al (cmp_prm hp hr.1) (fun x g => by
    show ρ (alE nb x) = x
    rw [alE_n (gng_n g)]
    exact hr.2.2.1 x (gng_n g)) h ne)
  have c1 := pt_cnt hs hr
  have c2 := al_cnt hs hl
  have c3 := rot_cnt hr
  have c4 : clG (gngb nb) (orbN (fun x => ρ (alE nb x))) 49 = wkE nb ρ := rfl
  have c5 := cnt_nt2 (X := gngb nb) 49
  have c6 : cnt (gngb nb) 49 = sdN nb 7 := sdN_e (nb := nb) 7 (by decide)
  unfold gnZ
  omega
end
