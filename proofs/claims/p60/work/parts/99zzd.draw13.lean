/-! THE PURE PART, drawings: other names for the nodes; five great drawings. -/
section
theorem cls_conj {R R' : Nat → Nat → Prop} {p q : Nat → Nat} {N : Nat} (hR : eqvR R) (hR' : eqvR R') (hpq : ∀ x, p (q x) = x) (hqp : ∀ x, q (p x) = x) (hp : ∀ x, x < N → p x < N) (hq : ∀ x, x < N → q x < N) (h : ∀ x y, R' x y ↔ R (q x) (q y)) : clsN R' N = clsN R N := by
  have e : ∀ S : Nat → Nat → Prop, clsN S N = clG (fun _ => true) S N := fun S => cnt_eq N (fun i _ => by
    rw [Bool.eq_iff_iff, frN_t, fstG_t]
    exact ⟨fun w => ⟨rfl, fun j hj _ => w j hj⟩, fun w j hj => w.2 j hj rfl⟩)
  rw [e, e]
  refine cls_rel (T := fun x y => y = q x) hR' hR (fun x hx _ => ⟨q x, hq x hx, rfl, rfl⟩) (fun y hy _ => ⟨p y, hp y hy, rfl, (hqp y).symm⟩) (fun x x' y y' _ _ _ _ _ _ _ _ t t' => ?_)
  rw [t, t']
  exact h x x'
theorem itA_conj {f p q : Nat → Nat} (hpq : ∀ x, p (q x) = x) (hqp : ∀ x, q (p x) = x) (x : Nat) : ∀ k, itA (fun x => p (f (q x))) k x = p (itA f k (q x))
  | 0 => (hpq x).symm
  | k + 1 => by
    show p (f (q (itA (fun x => p (f (q x))) k x))) = p (f (itA f k (q x)))
    rw [itA_conj hpq hqp x k, hqp]
theorem orb_conj {f p q : Nat → Nat} (hpq : ∀ x, p (q x) = x) (hqp : ∀ x, q (p x) = x) (x y : Nat) : orbN (fun x => p (f (q x))) x y ↔ orbN f (q x) (q y) := by
  constructor
  · rintro ⟨k, hk⟩
    rw [itA_conj hpq hqp] at hk
    exact ⟨k, by rw [← hk, hqp]⟩
  · rintro ⟨k, hk⟩
    exact ⟨k, by rw [itA_conj hpq hqp, hk, hpq]⟩
theorem prm_conj {f p q : Nat → Nat} {N : Nat} (hpq : ∀ x, p (q x) = x) (hqp : ∀ x, q (p x) = x) (hp : ∀ x, x < N → p x < N) (hq : ∀ x, x < N → q x < N) (h : prmN f N) : prmN (fun x => p (f (q x))) N := by
  refine ⟨fun x hx => hp _ (h.1 _ (hq x hx)), fun x hx => ?_, fun x y e => ?_⟩
  · dsimp only
    rw [h.2.1 (q x) (by
      apply Classical.byContradiction
      intro c
      have := hp _ (show q x < N by omega)
      rw [hpq] at this
      omega), hpq]
  · have e : p (f (q x)) = p (f (q y)) := e
    have e2 : f (q x) = f (q y) := by rw [← hqp (f (q x)), e, hqp]
    have := h.2.2 _ _ e2
    rw [← hpq x, this, hpq]
theorem gn_conj {α ρ p q : Nat → Nat} {N : Nat} (hpq : ∀ x, p (q x) = x) (hqp : ∀ x, q (p x) = x) (hp : ∀ x, x < N → p x < N) (hq : ∀ x, x < N → q x < N) (h1 : prmN α N) (h2 : prmN ρ N) : gnZ (fun x => p (α (q x))) (fun x => p (ρ (q x))) N = gnZ α ρ N := by
  have c1 := prm_conj hpq hqp hp hq h1
  have c2 := prm_conj hpq hqp hp hq h2
  have e1 := cls_conj (orb_eqv h1) (orb_eqv c1) hpq hqp hp hq (orb_conj hpq hqp)
  have e2 := cls_conj (orb_eqv h2) (orb_eqv c2) hpq hqp hp hq (orb_conj hpq hqp)
  have e3 := cls_conj (R := orbN (fun x => ρ (α x))) (R' := orbN (fun x => p (ρ (α (q x))))) (orb_eqv (cmp_prm h1 h2)) (orb_eqv (prm_conj (f := fun x => ρ (α x)) hpq hqp hp hq (cmp_prm h1 h2))) hpq hqp hp hq (orb_conj (f := fun x => ρ (α x)) hpq hqp)
  have e4 := cls_conj (R := genR α ρ) (R' := genR (fun x => p (α (q x))) (fun x => p (ρ (q x)))) gen_eqv gen_eqv hpq hqp hp hq (fun x y => by
    constructor
    · intro w
      refine w (fun a b => genR α ρ (q a) (q b)) ⟨fun a => gen_eqv.1 _, fun a b => gen_eqv.2.1 _ _, fun a b c => gen_eqv.2.2 _ _ _⟩ (fun z => ?_) (fun z => ?_)
      · rw [hqp]
        exact gen_al _
      · rw [hqp]
        exact gen_rh _
    · intro w
      have := w (fun a b => genR (fun x => p (α (q x))) (fun x => p (ρ (q x))) (p a) (p b)) ⟨fun a => gen_eqv.1 _, fun a b => gen_eqv.2.1 _ _, fun a b c => gen_eqv.2.2 _ _ _⟩ (fun z => ?_) (fun z => ?_)
      · rw [hpq, hpq] at this
        exact this
      · have := gen_al (α := fun x => p (α (q x))) (ρ := fun x => p (ρ (q x))) (p z)
        rw [hqp] at this
        exact this
      · have := gen_rh (α := fun x => p (α (q x))) (ρ := fun x => p (ρ (q x))) (p z)
        rw [hqp] at this
        exact this)
  have e5 : clsN (orbN (fun x => (fun x => p (ρ (q x))) ((fun x => p (α (q x))) x))) N = clsN (orbN (fun x => p (ρ (α (q x))))) N := by
    have : (fun x => (fun x => p (ρ (q x))) ((fun x => p (α (q x))) x)) = (fun x => p (ρ (α (q x)))) := by
      funext x
      dsimp only
      rw [hqp]
    rw [this]
  unfold gnZ
  rw [e1, e2, e4, e5, e3]
/-- names by f -/
def nmN (f : Nat → Nat) (x : Nat) : Nat := if x < 49 then 7 * f (x / 7) + f (x % 7) else x
theorem drn_lab {nb nb' f g : Nat → Nat} (h1 : ∀ u, u < 7 → f u < 7 ∧ g (f u) = u) (h2 : ∀ u, u < 7 → g u < 7 ∧ f (g u) = u) (hg : ∀ x, gngB nb' x ↔ x < 49 ∧ gngB nb (nmN g x)) (h : drnE nb) : drnE nb' := by
  obtain ⟨hs, ρ, hr, h0⟩ := h
  have inv : ∀ f g : Nat → Nat, (∀ u, u < 7 → f u < 7 ∧ g (f u) = u) → ∀ x, nmN g (nmN f x) = x ∧ (x < 49 → nmN f x < 49 ∧ nmN f x / 7 = f (x / 7) ∧ nmN f x % 7 = f (x % 7)) := fun f g w x => by
    by_cases c : x < 49
    · obtain ⟨a1, a2⟩ := w (x / 7) (by omega)
      obtain ⟨b1, b2⟩ := w (x % 7) (by omega)
      have e : nmN f x = 7 * f (x / 7) + f (x % 7) := if_pos c
      have d : nmN f x / 7 = f (x / 7) := by omega
      have m : nmN f x % 7 = f (x % 7) := by omega
      refine ⟨?_, fun _ => ⟨by omega, d, m⟩⟩
      rw [show nmN g (nmN f x) = 7 * g (nmN f x / 7) + g (nmN f x % 7) from if_pos (by omega), d, m, a2, b2]
      omega
    · have e : nmN f x = x := if_neg c
      exact ⟨by rw [e]; exact if_neg c, fun h => absurd h c⟩
  have hqp := fun x => (inv f g h1 x).1
  have hpq := fun x => (inv g f h2 x).1
  have hp := fun x hx => ((inv f g h1 x).2 hx).1
  have hq := fun x hx => ((inv g f h2 x).2 hx).1
  have gq : ∀ x, gngB nb' x ↔ gngB nb (nmN g x) := fun x => by
    rw [hg]
    refine ⟨fun w => w.2, fun w => ⟨?_, w⟩⟩
    apply Classical.byContradiction
    intro c
    have := w.1
    rw [show nmN g x = x from if_neg c] at this
    exact c this
  have hs' : symB nb' := fun u v hu hv => by
    have t : ∀ u v, u < 7 → v < 7 → ((nb' u).testBit v = true ↔ (nb (g u)).testBit (g v) = true) := fun u v hu hv => by
      have w := gq (7 * u + v)
      have e := (inv g f h2 (7 * u + v)).2 (by omega)
      unfold gngB at w
      rw [e.2.1, e.2.2, show (7 * u + v) / 7 = u by omega, show (7 * u + v) % 7 = v by omega] at w
      exact ⟨fun z => (w.mp ⟨by omega, z⟩).2, fun z => (w.mpr ⟨e.1, z⟩).2⟩
    rw [Bool.eq_iff_iff, t u v hu hv, t v u hv hu, hs _ _ (h2 u hu).1 (h2 v hv).1]
  have ea : alE nb' = fun x => nmN f (alE nb (nmN g x)) := by
    funext x
    by_cases g1 : gngB nb' x
    · have x49 := g1.1
      obtain ⟨e1, e2, e3⟩ := (inv g f h2 x).2 x49
      rw [show alE nb' x = 7 * (x % 7) + x / 7 from if_pos g1, (alE_g hs ((gq x).mp g1)).1, e2, e3]
      obtain ⟨a1, a2⟩ := h2 (x / 7) (by omega)
      obtain ⟨b1, b2⟩ := h2 (x % 7) (by omega)
      rw [show nmN f (7 * g (x % 7) + g (x / 7)) = 7 * f ((7 * g (x % 7) + g (x / 7)) / 7) + f ((7 * g (x % 7) + g (x / 7)) % 7) from if_pos (by omega), show (7 * g (x % 7) + g (x / 7)) / 7 = g (x % 7) by omega, show (7 * g (x % 7) + g (x / 7)) % 7 = g (x / 7) by omega, a2, b2]
    · rw [alE_n g1, alE_n (fun w => g1 ((gq x).mpr w)), hpq]
  refine ⟨hs', fun x => nmN f (ρ (nmN g x)), ⟨prm_conj hpq hqp hp hq hr.1, fun x => ?_, fun x gx => ?_, fun x y gx gy e => ?_⟩, ?_⟩
  · dsimp only
    by_cases c : x < 49
    · obtain ⟨e1, e2, e3⟩ := (inv g f h2 x).2 c
      have r1 := hr.1.1 _ e1
      obtain ⟨d1, d2, d3⟩ := (inv f g h1 _).2 r1
      rw [d2, hr.2.1, e2, (h2 (x / 7) (by omega)).2]
    · rw [show nmN g x = x from if_neg c, hr.1.2.1 x (by omega), show nmN f x = x from if_neg c]
  · dsimp only
    rw [hr.2.2.1 _ (fun w => gx ((gq x).mpr w)), hpq]
  · refine (orb_conj hpq hqp x y).mpr (hr.2.2.2 _ _ ((gq x).mp gx) ((gq y).mp gy) ?_)
    obtain ⟨_, e2, _⟩ := (inv g f h2 x).2 gx.1
    obtain ⟨_, d2, _⟩ := (inv g f h2 y).2 gy.1
    rw [e2, d2, e]
  · rw [ea, gn_conj hpq hqp hp hq (alE_inv hs).1 hr.1]
    exact h0
/-- a matrix of 7 by 7 bits -/
def nbW (W u : Nat) : Nat := W >>> (7 * u) % 128
theorem nbW_t {W u v : Nat} (hv : v < 7) : (nbW W u).testBit v = W.testBit (7 * u + v) := by
  unfold nbW
  rw [show (128 : Nat) = 2 ^ 7 from rfl, Nat.testBit_mod_two_pow, Nat.testBit_shiftRight, decide_eq_true hv, Bool.true_and]
theorem nbW_g {W x : Nat} : gngB (nbW W) x ↔ x < 49 ∧ W.testBit x = true := by
  unfold gngB
  rw [nbW_t (by omega), show 7 * (x / 7) + x % 7 = x by omega]
def allN (n : Nat) (p : Nat → Bool) : Bool := (List.range n).all p
theorem allN_t {n : Nat} {p : Nat → Bool} (h : allN n p = true) : ∀ x, x < n → p x = true := fun x hx => List.all_eq_true.mp h x (List.mem_range.mpr hx)
/-- W drawn by the rounds r, its walks named by l, hanging together by the tree p -/
def bsB (W : Nat) (r l p : List Nat) : Bool := allN 49 (fun x => decide (r.getD x 0 < 49) && decide (r.getD x 0 / 7 = x / 7) && (W.testBit x || decide (r.getD x 0 = x)) && decide (W.testBit (7 * (x % 7) + x / 7) = W.testBit x) && (decide (x / 7 ≠ x % 7) || !W.testBit x) && (!W.testBit x || decide (l.getD (r.getD (7 * (x % 7) + x / 7) 0) 0 = l.getD x 0)) && allN 49 (fun y => decide (r.getD x 0 = r.getD y 0 → x = y) && (!(W.testBit x && W.testBit y && decide (x / 7 = y / 7)) || (List.range 7).any (fun k => decide (itA (fun z => r.getD z 0) k x = y)))))
  && allN 10 (fun i => (List.range 49).any (fun x => W.testBit x && decide (l.getD x 0 = i)))
  && allN 7 (fun u => (decide (u = 0) || W.testBit (7 * u + p.getD u 0)) && decide (p.getD u 0 < 7) && decide (p.getD (p.getD (p.getD u 0) 0) 0 = 0))
  && decide (sdN (nbW W) 7 = 30) && decide (ndE (nbW W) = 7) && decide (p.getD 0 0 = 0)
theorem bs_drn {W : Nat} {r l p : List Nat} (h : bsB W r l p = true) : drnE (nbW W) := by
  unfold bsB at h
  simp only [Bool.and_eq_true] at h
  obtain ⟨⟨⟨⟨⟨h1, h2⟩, h3⟩, h4⟩, h5⟩, h6⟩ := h
  have h4 := of_decide_eq_true h4
  have h5 := of_decide_eq_true h5
  have h6 := of_decide_eq_true h6
  have a := fun x hx => allN_t h1 x hx
  simp only [Bool.and_eq_true, Bool.or_eq_true, Bool.not_eq_true', decide_eq_true_iff] at a
  have hs : symB (nbW W) := fun u v hu hv => by
    have := (a (7 * u + v) (by omega)).1.1.1.2
    rw [show (7 * u + v) % 7 = v by omega, show (7 * u + v) / 7 = u by omega] at this
    rw [nbW_t hv, nbW_t hu, this]
  have hl : ∀ u, u < 7 → (nbW W u).testBit u = false := fun u hu => by
    have := (a (7 * u + u) (by omega)).1.1.2
    rw [show (7 * u + u) % 7 = u by omega, show (7 * u + u) / 7 = u by omega] at this
    rw [nbW_t hu]
    exact this.resolve_left (fun w => w rfl)
  obtain ⟨ρ, hρ⟩ : ∃ ρ : Nat → Nat, ∀ x, ρ x = if x < 49 then r.getD x 0 else x := ⟨_, fun _ => rfl⟩
  have ry : ∀ x, x < 49 → ρ x = r.getD x 0 := fun x hx => by rw [hρ, if_pos hx]
  have rn : ∀ x, 49 ≤ x → ρ x = x := fun x hx => by rw [hρ, if_neg (by omega)]
  have lt : ∀ x, x < 49 → r.getD x 0 < 49 := fun x hx => (a x hx).1.1.1.1.1.1
  have itr : ∀ x, x < 49 → ∀ k, itA (fun z => r.getD z 0) k x = itA ρ k x ∧ itA ρ k x < 49 := fun x hx k => by
    induction k with
    | zero => exact ⟨rfl, hx⟩
    | succ k ih =>
      obtain ⟨i1, i2⟩ := ih
      refine ⟨?_, ?_⟩
      · show r.getD (itA (fun z => r.getD z 0) k x) 0 = ρ (itA ρ k x)
        rw [i1, ry _ i2]
      · show ρ (itA ρ k x) < 49
        rw [ry _ i2]
        exact lt _ i2
  have hr : rotE (nbW W) ρ := by
    refine ⟨⟨fun x hx => by rw [ry x hx]; exact lt x hx, fun x hx => rn x hx, fun x y e => ?_⟩, fun x => ?_, fun x gx => ?_, fun x y gx gy e => ?_⟩
    · by_cases cx : x < 49
      · by_cases cy : y < 49
        · rw [ry x cx, ry y cy] at e
          have := allN_t (a x cx).2 y cy
          simp only [Bool.and_eq_true, decide_eq_true_iff] at this
          exact this.1 e
        · have := lt x cx
          rw [ry x cx, rn y (by omega)] at e
          omega
      · by_cases cy : y < 49
        · have := lt y cy
          rw [ry y cy, rn x (by omega)] at e
          omega
        · rw [rn x (by omega), rn y (by omega)] at e
          exact e
    · by_cases cx : x < 49
      · rw [ry x cx]
        exact (a x cx).1.1.1.1.1.2
      · rw [rn x (by omega)]
    · by_cases cx : x < 49
      · rw [ry x cx]
        refine (a x cx).1.1.1.1.2.resolve_left (fun w => gx (nbW_g.mpr ⟨cx, w⟩))
      · exact rn x (by omega)
    · have := allN_t (a x gx.1).2 y gy.1
      simp only [Bool.and_eq_true, Bool.or_eq_true, Bool.not_eq_true', Bool.and_eq_false_iff, decide_eq_false_iff_not, List.any_eq_true, decide_eq_true_iff] at this
      rcases this.2 with w | ⟨k, _, w⟩
      · have g1 := (nbW_g.mp gx).2
        have g2 := (nbW_g.mp gy).2
        rw [g1, g2] at w
        rcases w with (w | w) | w
        · exact absurd w (by decide)
        · exact absurd w (by decide)
        · exact absurd e w
      · exact ⟨k, by rw [← (itr x gx.1 k).1]; exact w⟩
  refine ⟨hs, ρ, hr, ?_⟩
  have num := gnZ_num hs hl hr
  have pos := gn_pos (N := 49) _ (alE (nbW W)) ρ (Nat.le_refl _) (alE_inv hs) hr.1
  have wk : 10 ≤ wkE (nbW W) ρ := by
    have := clG_le (G := fun _ => true) (H := gngb (nbW W)) (R := fun x y => x = y) (S := orbN (fun x => ρ (alE (nbW W) x))) (T := fun i x => x < 49 ∧ W.testBit x = true ∧ l.getD x 0 = i) (n := 10) (m := 49) (orb_eqv (cmp_prm (alE_inv hs).1 hr.1)) (fun i hi _ => by
      have := allN_t h2 i hi
      obtain ⟨x, x1, x2⟩ := List.any_eq_true.mp this
      rw [Bool.and_eq_true, decide_eq_true_iff] at x2
      have x1 := List.mem_range.mp x1
      exact ⟨x, x1, gngb_t.mpr (nbW_g.mpr ⟨x1, x2.1⟩), x1, x2.1, x2.2⟩) (fun i j x y _ _ _ _ t t' o => by
      have key : ∀ k, gngB (nbW W) (itA (fun x => ρ (alE (nbW W) x)) k x) ∧ l.getD (itA (fun x => ρ (alE (nbW W) x)) k x) 0 = l.getD x 0 := by
        intro k
        induction k with
        | zero => exact ⟨nbW_g.mpr ⟨t.1, t.2.1⟩, rfl⟩
        | succ k ih =>
          obtain ⟨i1, i2⟩ := ih
          obtain ⟨z, hz⟩ : ∃ z, z = itA (fun x => ρ (alE (nbW W) x)) k x := ⟨_, rfl⟩
          show gngB (nbW W) (ρ (alE (nbW W) (itA (fun x => ρ (alE (nbW W) x)) k x))) ∧ l.getD (ρ (alE (nbW W) (itA (fun x => ρ (alE (nbW W) x)) k x))) 0 = _
          rw [← hz] at i1 i2
          rw [← hz]
          obtain ⟨e1, e2⟩ := alE_g hs i1
          refine ⟨rot_g hr e2, ?_⟩
          have := (a z i1.1).1.2.resolve_left (fun w => by
            rw [(nbW_g.mp i1).2] at w
            exact absurd w (by decide))
          rw [e1, ry _ (by have := i1.1; omega), this, i2]
      obtain ⟨k, hk⟩ := o
      have := (key k).2
      rw [hk, t'.2.2, t.2.2] at this
      exact this.symm)
    rw [clG_eq, cnt_T] at this
    exact this
  have pt : ptE (nbW W) ≤ 1 := by
    have := clG_le (G := hasE (nbW W)) (H := fun _ => true) (R := conE (nbW W)) (S := fun x y => x = y) (T := fun _ y => y = 0) (n := 7) (m := 1) eq_eqv (fun x _ _ => ⟨0, by decide, rfl, rfl⟩) (fun x y _ _ hx hy _ _ _ _ _ => by
      have b := fun u hu => allN_t h3 u hu
      simp only [Bool.and_eq_true, Bool.or_eq_true, decide_eq_true_iff] at b
      have st : ∀ u, u < 7 → conE (nbW W) u (p.getD u 0) := fun u hu => by
        rcases (b u hu).1.1 with e | e
        · rw [e, h6]
          exact con_eqv.1 _
        · intro R _ hR
          exact hR _ _ hu (b u hu).1.2 (by rw [nbW_t (b u hu).1.2]; exact e)
      have root : ∀ u, u < 7 → conE (nbW W) u 0 := fun u hu => by
        have l1 := (b u hu).1.2
        have l2 := (b _ l1).1.2
        have s1 := st u hu
        have s2 := st _ l1
        have s3 := st _ l2
        rw [(b u hu).2] at s3
        exact con_eqv.2.2 _ _ _ s1 (con_eqv.2.2 _ _ _ s2 s3)
      exact con_eqv.2.2 _ _ _ (root x hx) (con_eqv.2.1 _ _ (root y hy)))
    rw [clG_eq, cnt_T] at this
    exact this
  rw [h4, h5] at num
  omega
end
