/-! THE PURE PART, drawings: the walks by places. -/
section
theorem rot_sub {nb' ρ0 : Nat → Nat} : ∀ n (nb ρ : Nat → Nat), cnt (gngb nb) 49 ≤ n → rotE nb ρ → (∀ x, gngB nb' x → gngB nb x) → frtN ρ0 ρ (gngB nb) → ∃ σ, rotE nb' σ ∧ frtN ρ0 σ (gngB nb') := by
  intro n
  induction n with
  | zero =>
    intro nb ρ hn hr sub hf
    have e : ∀ x, gngB nb x ↔ gngB nb' x := fun x => ⟨fun g => by
      have := cnt_pos (X := gngb nb) (gngb_t.mpr g) g.1
      omega, sub x⟩
    refine ⟨ρ, rot_c e hr, fun x gx => ?_⟩
    obtain ⟨a, k, b, c⟩ := hf x ((e x).mpr gx)
    exact ⟨(e _).mp a, k, b, fun j hj w => c j hj ((e _).mpr w)⟩
  | succ n ih =>
    intro nb ρ hn hr sub hf
    by_cases c : ∃ x, gngB nb x ∧ ¬ gngB nb' x
    · obtain ⟨x, gx, ngx⟩ := c
      have x49 := gx.1
      have g' : ∀ y, gngB (fun u => if u = x / 7 then nsd (nb u) (2 ^ (x % 7)) else nb u) y ↔ gngB nb y ∧ y ≠ x := fun y => by
        unfold gngB
        dsimp only
        by_cases u1 : y / 7 = x / 7
        · rw [if_pos u1, nsd_bit, Nat.testBit_two_pow, Bool.and_eq_true, Bool.not_eq_true', decide_eq_false_iff_not]
          exact ⟨fun w => ⟨⟨w.1, w.2.1⟩, fun z => w.2.2 (by omega)⟩, fun w => ⟨w.1.1, w.1.2, fun z => w.2 (by omega)⟩⟩
        · rw [if_neg u1]
          exact ⟨fun w => ⟨w, fun z => u1 (by omega)⟩, fun w => w.1⟩
      have lt : cnt (gngb (fun u => if u = x / 7 then nsd (nb u) (2 ^ (x % 7)) else nb u)) 49 < cnt (gngb nb) 49 := cnt_lt (i := x) (fun j _ h => gngb_t.mpr ((g' j).mp (gngb_t.mp h)).1) x49 (by
        cases e : gngb (fun u => if u = x / 7 then nsd (nb u) (2 ^ (x % 7)) else nb u) x with
        | false => rfl
        | true => exact absurd rfl ((g' x).mp (gngb_t.mp e)).2) (gngb_t.mpr gx)
      exact ih _ _ (by omega) (skp_rot hr x49 g') (fun y gy => (g' y).mpr ⟨sub y gy, fun e => ngx (by rw [← e]; exact gy)⟩) (frt_skp hr.1 hf g')
    · have e : ∀ x, gngB nb x ↔ gngB nb' x := fun x => ⟨fun g => Classical.byContradiction fun w => c ⟨x, g, w⟩, sub x⟩
      refine ⟨ρ, rot_c e hr, fun x gx => ?_⟩
      obtain ⟨a, k, b, c⟩ := hf x ((e x).mpr gx)
      exact ⟨(e _).mp a, k, b, fun j hj w => c j hj ((e _).mpr w)⟩
theorem rot_g {nb ρ : Nat → Nat} (hr : rotE nb ρ) {x : Nat} (gx : gngB nb x) : gngB nb (ρ x) := by
  apply Classical.byContradiction
  intro c
  have e := hr.1.2.2 _ _ (hr.2.2.1 _ c)
  rw [e] at c
  exact c gx
theorem frt_self {nb ρ : Nat → Nat} (hr : rotE nb ρ) : frtN ρ ρ (gngB nb) := fun x gx => ⟨rot_g hr gx, 0, rfl, fun j hj => absurd hj (Nat.not_lt_zero j)⟩
theorem frt_eq {nb' ρ σ τ : Nat → Nat} (h1 : rotE nb' σ) (h2 : frtN ρ σ (gngB nb')) (h3 : rotE nb' τ) (h4 : frtN ρ τ (gngB nb')) : σ = τ := by
  funext x
  by_cases g : gngB nb' x
  · obtain ⟨a, k, b, c⟩ := h4 x g
    rw [b]
    rw [b] at a
    exact frt_one h2 g a c
  · rw [h1.2.2.1 x g, h3.2.2.1 x g]
/-- only the nodes up to l -/
def nbL (nb : Nat → Nat) (l u : Nat) : Nat := if u ≤ l then nb u &&& (2 ^ (l + 1) - 1) else 0
theorem nbL_t {nb : Nat → Nat} {l u v : Nat} : (nbL nb l u).testBit v = true ↔ (nb u).testBit v = true ∧ u ≤ l ∧ v ≤ l := by
  unfold nbL
  by_cases c : u ≤ l
  · rw [if_pos c, Nat.testBit_and, Bool.and_eq_true, Nat.testBit_two_pow_sub_one, decide_eq_true_iff]
    exact ⟨fun h => ⟨h.1, c, by omega⟩, fun h => ⟨h.1, by omega⟩⟩
  · rw [if_neg c, Nat.zero_testBit]
    exact ⟨fun h => absurd h (by decide), fun h => absurd h.2.1 c⟩
theorem nbL_g {nb : Nat → Nat} {l x : Nat} : gngB (nbL nb l) x ↔ gngB nb x ∧ x / 7 ≤ l ∧ x % 7 ≤ l := by
  unfold gngB
  rw [nbL_t]
  exact ⟨fun h => ⟨⟨h.1, h.2.1⟩, h.2.2⟩, fun h => ⟨h.1.1, h.1.2, h.2⟩⟩
theorem nbL_s {nb : Nat → Nat} {l : Nat} (hs : symB nb) : symB (nbL nb l) := fun u v hu hv => by
  rw [Bool.eq_iff_iff, nbL_t, nbL_t, hs u v hu hv]
  exact ⟨fun h => ⟨h.1, h.2.2, h.2.1⟩, fun h => ⟨h.1, h.2.2, h.2.1⟩⟩
theorem nbL_l {nb : Nat → Nat} {l : Nat} (hl : ∀ u, u < 7 → (nb u).testBit u = false) : ∀ u, u < 7 → (nbL nb l u).testBit u = false := fun u hu => by
  cases e : (nbL nb l u).testBit u with
  | false => rfl
  | true =>
    have := (nbL_t.mp e).1
    rw [hl u hu] at this
    exact this.symm
/-- the rounds of the nodes up to l, without the later ones -/
noncomputable def frS (nb t s : Nat → Nat) (l : Nat) : Nat → Nat := @dite _ (∃ σ, rotE (nbL nb l) σ ∧ frtN (roT nb t s (l + 1)) σ (gngB (nbL nb l))) (Classical.propDecidable _) (fun h => Classical.choose h) (fun _ => fun x => x)
theorem frS_ok {nb t s : Nat → Nat} {l : Nat} (hl : l < 7) (h : okR nb t s (l + 1)) : rotE (nbL nb l) (frS nb t s l) ∧ frtN (roT nb t s (l + 1)) (frS nb t s l) (gngB (nbL nb l)) := by
  have hr := roT_rot (show l + 1 ≤ 7 by omega) h
  have ex := rot_sub (nb' := nbL nb l) (ρ0 := roT nb t s (l + 1)) _ _ _ (Nat.le_refl _) hr (fun x g => by
    have := nbL_g.mp g
    exact nbF_g.mpr ⟨this.1, by omega⟩) (frt_self hr)
  unfold frS
  rw [dif_pos ex]
  exact Classical.choose_spec ex
/-- as many walks as are due -/
def wOK (nb t s : Nat → Nat) (l : Nat) : Prop := gnZ (alE (nbL nb l)) (frS nb t s l) 49 = 0
theorem wOK_c {nb t s t' s' : Nat → Nat} {l : Nat} (hl : l < 7) (h : okR nb t s (l + 1)) (h' : okR nb t' s' (l + 1)) (e : ∀ u, u ≤ l → ∀ p, plB nb u p → t p = t' p) : wOK nb t s l ↔ wOK nb t' s' l := by
  have er : roT nb t s (l + 1) = roT nb t' s' (l + 1) := by
    funext x
    by_cases g : gngB (nbF nb (l + 1)) x
    · obtain ⟨a1, _, a3, a4, _, _⟩ := roT_y h g
      obtain ⟨b1, _, b3, b4, _, _⟩ := roT_y h' g
      have xl := (nbF_g.mp g).2
      have es : s x = s' x := okT_inj h xl a3 b3 (by rw [a4, e _ (by omega) _ b3, b4])
      rw [a1, b1, es, e _ (by omega) _ (cyc_pl b3)]
    · rw [roT_n g, roT_n g]
  unfold wOK frS
  rw [er]
theorem roT_itL {nb t s : Nat → Nat} {L L' : Nat} (hLL : L ≤ L') (h : okR nb t s L') {x : Nat} (g : gngB (nbF nb L) x) : ∀ k, itA (roT nb t s L) k x = itA (roT nb t s L') k x ∧ gngB (nbF nb L) (itA (roT nb t s L) k x)
  | 0 => ⟨rfl, g⟩
  | k + 1 => by
    obtain ⟨ih, ig⟩ := roT_itL hLL h g k
    have hh : okR nb t s L := fun u hu => h u (by omega)
    show roT nb t s L (itA (roT nb t s L) k x) = roT nb t s L' (itA (roT nb t s L') k x) ∧ gngB (nbF nb L) (roT nb t s L (itA (roT nb t s L) k x))
    have g2 : gngB (nbF nb L') (itA (roT nb t s L) k x) := by
      have := nbF_g.mp ig
      exact nbF_g.mpr ⟨this.1, by omega⟩
    exact ⟨by rw [← ih, (roT_y hh ig).1, (roT_y h g2).1], (roT_y hh ig).2.1⟩
/-- rounds with the lowest first, each prefix with as many walks as are due -/
def goodT (nb t : Nat → Nat) : Prop := ∃ s, okR nb t s 7 ∧ (∀ u, u < 7 → 0 < degN nb u → isLow nb u (t (sdN nb u))) ∧ ∀ l, l < 7 → 0 < degN nb l → wOK nb t s l
theorem drn_good {nb : Nat → Nat} (hl : ∀ u, u < 7 → (nb u).testBit u = false) (h : drnE nb) : ∃ t, goodT nb t := by
  obtain ⟨hs, ρ, hr, h0⟩ := h
  obtain ⟨t, s, ok, er, lo⟩ := rot_T hr
  have er : roT nb t s 7 = ρ := funext er
  refine ⟨t, s, ok, lo, fun l hl7 _ => ?_⟩
  have ok' : okR nb t s (l + 1) := fun u hu => ok u (by omega)
  obtain ⟨σ, s1, s2, s3⟩ := her_sub (ρ0 := ρ) (nbL_s (l := l) hs) _ nb ρ (Nat.le_refl _) hs hl hr h0 (fun x g => (nbL_g.mp g).1) (frt_self hr)
  obtain ⟨f1, f2⟩ := frS_ok hl7 ok'
  have f3 : frtN (roT nb t s (l + 1)) σ (gngB (nbL nb l)) := fun x gx => by
    obtain ⟨a, k, b, c⟩ := s3 x gx
    have gl := nbL_g.mp gx
    have gx' : gngB (nbF nb (l + 1)) x := nbF_g.mpr ⟨gl.1, by omega⟩
    have ii := fun k => (roT_itL (show l + 1 ≤ 7 by omega) ok gx' k).1
    refine ⟨a, k, by rw [ii, er]; exact b, fun j hj => by rw [ii, er]; exact c j hj⟩
  unfold wOK
  rw [frt_eq f1 f2 s1 f3]
  exact s2
theorem wOK_drn {nb t s : Nat → Nat} {l : Nat} (hs : symB nb) (hl : l < 7) (h : okR nb t s (l + 1)) (hw : wOK nb t s l) (e : ∀ x, gngB nb x → x / 7 ≤ l ∧ x % 7 ≤ l) : drnE nb := by
  have eg : ∀ x, gngB (nbL nb l) x ↔ gngB nb x := fun x => ⟨fun g => (nbL_g.mp g).1, fun g => nbL_g.mpr ⟨g, e x g⟩⟩
  have h1 := (frS_ok hl h).1
  refine ⟨hs, frS nb t s l, rot_c eg h1, ?_⟩
  rw [← alE_c eg]
  exact hw
end
