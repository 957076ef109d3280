/-! THE PURE PART, drawings: the solver, the whole; what it keeps. -/
section
theorem top_ex {nb : Nat → Nat} : ∀ k, (∃ u, u < k ∧ 0 < degN nb u) → ∃ l, l < k ∧ 0 < degN nb l ∧ ∀ u, l < u → u < k → degN nb u = 0
  | 0, ⟨u, h, _⟩ => absurd h (Nat.not_lt_zero u)
  | k + 1, ⟨u, h1, h2⟩ => by
    by_cases c : 0 < degN nb k
    · exact ⟨k, by omega, c, fun u a b => by omega⟩
    · obtain ⟨l, l1, l2, l3⟩ := top_ex k ⟨u, by
        by_cases d : u = k
        · rw [d] at h2; exact absurd h2 c
        · omega, h2⟩
      refine ⟨l, by omega, l2, fun v a b => ?_⟩
      by_cases d : v = k
      · rw [d]; omega
      · exact l3 v a (by omega)
theorem no_drn {nb : Nat → Nat} (hs : symB nb) (h : ∀ u, u < 7 → degN nb u = 0) : ∀ σ, rotE nb σ → gnZ (alE nb) σ 49 = 0 := fun σ hr => by
  have z : ∀ x, ¬ gngB nb x := fun x g => by
    have x49 := g.1
    have := cnt_pos (X := fun v => (nb (x / 7)).testBit v) g.2 (show x % 7 < 7 by omega)
    have d := h (x / 7) (by omega)
    unfold degN at d
    omega
  exact gn_0 (fun x => alE_n (z x)) (fun x => hr.2.2.1 x (z x))
/-- up to the last node with an edge is up to the last node -/
theorem gd_at {nb t s : Nat → Nat} {n l : Nat} (hg : gph nb n) (hl : l < 7) (hn : n ≤ l + 1) (h : gdT nb t s) : wOK nb t s l := by
  obtain ⟨g1, g2, g3, g4, g5, g6⟩ := id hg
  obtain ⟨h1, h2, h3⟩ := h
  by_cases c : ∃ u, u < 7 ∧ 0 < degN nb u
  · obtain ⟨k, k1, k2, k3⟩ := top_ex 7 c
    have kn := deg_n hg k2
    have w := h3 k k1 k2
    have b : ∀ u v, u < 7 → v < 7 → (nb u).testBit v = true → u ≤ k ∧ v ≤ k := fun u v hu hv hb => by
      have d1 : 0 < degN nb u := cnt_pos (X := fun i => (nb u).testBit i) hb hv
      have d2 : 0 < degN nb v := cnt_pos (X := fun i => (nb v).testBit i) (by rw [← g2 u v hu hv]; exact hb) hu
      constructor
      · apply Classical.byContradiction
        intro x
        rw [k3 u (by omega) hu] at d1
        omega
      · apply Classical.byContradiction
        intro x
        rw [k3 v (by omega) hv] at d2
        omega
    have en : ∀ l, k ≤ l → nbL nb l = nb := fun l hkl => by
      funext u
      refine nb_ext fun v => ?_
      rw [Bool.eq_iff_iff, nbL_t]
      refine ⟨fun x => x.1, fun x => ⟨x, ?_⟩⟩
      by_cases hu : u < 7
      · by_cases hv : v < 7
        · have := b u v hu hv x
          omega
        · rw [nb_big (n := 7) (g4 u) (by omega)] at x
          exact absurd x (by decide)
      · rw [g5 u (by omega), Nat.zero_testBit] at x
        exact absurd x (by decide)
    have er : roT nb t s (l + 1) = roT nb t s (k + 1) := by
      funext x
      by_cases g : gngB nb x
      · have x49 := g.1
        have := b _ _ (show x / 7 < 7 by omega) (show x % 7 < 7 by omega) g.2
        unfold roT
        rw [if_pos ⟨gngb_t.mpr g, by omega⟩, if_pos ⟨gngb_t.mpr g, by omega⟩]
      · rw [roT_n (fun y => g (nbF_g.mp y).1), roT_n (fun y => g (nbF_g.mp y).1)]
    unfold wOK frS at w ⊢
    rw [en l (by omega), er]
    rw [en k (Nat.le_refl _)] at w
    exact w
  · have z : ∀ u, u < 7 → degN (nbL nb l) u = 0 := fun u hu => by
      have : degN nb u = 0 := by
        apply Classical.byContradiction
        intro x
        exact c ⟨u, hu, by omega⟩
      have le := cnt_le (X := fun v => (nbL nb l u).testBit v) (Y := fun v => (nb u).testBit v) 7 (fun v _ hv => (nbL_t.mp hv).1)
      unfold degN at this ⊢
      omega
    exact no_drn (nbL_s g2) z _ (frS_ok hl (fun u hu => h1 u (by omega))).1
theorem w_drn {nb t s : Nat → Nat} {n l : Nat} (hg : gph nb n) (hl : l < 7) (hn : n ≤ l + 1) (h1 : okR nb t s 7) (h : wOK nb t s l) : drnE nb := by
  refine wOK_drn hg.2.1 hl (fun u hu => h1 u (by omega)) h (fun x g => ?_)
  have x49 := g.1
  have d1 := deg_n hg (cnt_pos (X := fun i => (nb (x / 7)).testBit i) g.2 (show x % 7 < 7 by omega))
  have d2 := bit_n hg (show x / 7 < 7 by omega) (show x % 7 < 7 by omega) g.2
  omega
theorem good_drn {nb t : Nat → Nat} {n : Nat} (hg : gph nb n) (h : goodT nb t) : drnE nb := by
  obtain ⟨s, h⟩ := h
  exact w_drn (l := 6) hg (by decide) hg.1 h.1 (gd_at hg (by decide) hg.1 h)
theorem lex_u {t t' : Nat → Nat} {P : Nat} (h1 : lexL P t t') (h2 : lexL P t' t) : ∀ i, i < P → t i = t' i := by
  intro i
  induction i using Nat.strongRecOn with
  | ind i ih =>
    intro hi
    have a := h1 i hi (fun j hj => ih j hj (by omega))
    have b := h2 i hi (fun j hj => (ih j hj (by omega)).symm)
    omega
/-- the least row of rounds -/
noncomputable def tLe (nb : Nat → Nat) : Nat → Nat := @dite _ (∃ t, goodT nb t ∧ ∀ t', goodT nb t' → lexL (sdN nb 7) t t') (Classical.propDecidable _) (fun h => Classical.choose h) (fun _ => fun _ => 0)
theorem tLe_u {nb t : Nat → Nat} (h1 : goodT nb t) (h2 : ∀ t', goodT nb t' → lexL (sdN nb 7) t t') : ∀ i, i < sdN nb 7 → t i = tLe nb i := by
  have ex : ∃ t, goodT nb t ∧ ∀ t', goodT nb t' → lexL (sdN nb 7) t t' := ⟨t, h1, h2⟩
  unfold tLe
  rw [dif_pos ex]
  obtain ⟨a, b⟩ := Classical.choose_spec ex
  exact lex_u (h2 _ a) (b t h1)
theorem rwL_c {f g : Nat → Nat} : ∀ n, (∀ i, i < n → f i = g i) → rwL f n = rwL g n
  | 0, _ => rfl
  | n + 1, h => by
    rw [rwL, rwL, rwL_c n (fun i hi => h i (by omega)), h n (by omega)]
theorem T_fills {F n : Nat} {nb : Nat → Nat} {V : mV} (hF : 2 ^ 12 ≤ F) (hg : gph nb n) (hE : edS V nb n) (hu : ∀ u, u < 7 → V.rI 28 u = 0) : mTo (mX2_fillsFrom F 48 (0 : Int32) V) (fun r => mAv wX2_fillsFrom V r.2 ∧ ((r.1 = 1 ∧ drnE nb ∧ ∃ t s, gdT nb t s ∧ (∀ i, i < sdN nb 7 → t i = tLe nb i) ∧ prV r.2 nb t (sdN nb 7)) ∨ (r.1 = 0 ∧ ¬ drnE nb))) := by
  have g6 := hg.2.2.2.2.2
  obtain ⟨r, r1, r2⟩ := T_fillsFrom hF hg 48 0 (fun _ => 0) (fun _ => 0) V (by omega) (Nat.zero_le _) hE prS_0 (prV_0 hu) (fun l _ _ h => absurd h (Nat.not_lt_zero _))
  have ag : ∀ t' : Nat → Nat, agP 0 (fun _ => 0) t' := fun t' q hq => absurd hq (Nat.not_lt_zero q)
  refine ⟨r, r1, NX2_fillsFrom r1, ?_⟩
  rcases r2 with ⟨v1, t', s', k1, k2, k3, k4⟩ | ⟨v0, k1, k2⟩
  · exact Or.inl ⟨v1, good_drn hg ⟨s', k2⟩, t', s', k2, tLe_u ⟨s', k2⟩ (fun t'' gt => k3 t'' gt (ag t'')), k4⟩
  · refine Or.inr ⟨v0, fun c => ?_⟩
    obtain ⟨t, gt⟩ := drn_good hg.2.2.1 c
    exact k2 t gt (ag t)
/-- the edges of a set of items -/
def nbS (m : Nat) (A B : Nat → Nat) (S : Nat) : Nat → Nat := nearN (fun i => S.testBit i) A B m
/-- what is left, the items from j - 1 down gone through -/
noncomputable def coS (m : Nat) (A B : Nat → Nat) : Nat → Nat → Nat
  | 0, S => S
  | j + 1, S => @ite _ (S.testBit j = true ∧ ¬ drnE (nbS m A B (nsd S (2 ^ j)))) (Classical.propDecidable _) (coS m A B j (nsd S (2 ^ j))) (coS m A B j S)
/-- the row of a core -/
def rwC (m : Nat) (A B : Nat → Nat) (S : Nat) : List Int32 := nI (kdN (nbS m A B S)) :: filL (fun v => S.testBit v) m
theorem T_wC1 {F e s m S kd : Nat} {b : Int32} {d : Nat → Int32} (hk : mK (e + 2) = 9) (he : 256 ≤ e) (he2 : e < 1024) (hm : m ≤ 11) (hS : S < 2 ^ 11) : ∀ k' j Ln (V : mV), m < j + k' → j ≤ m → enQ V e s m b d → rowIs Ln V (e + 2) (nI kd :: filL (fun v => S.testBit v) j) → mTo (mX2_writeCore_go F k' 1 Ln e (nI S) (nI j) V) (fun p => rowIs p.2.1 p.2.2 (e + 2) (nI kd :: filL (fun v => S.testBit v) m) ∧ enQ p.2.2 e s m b d) := by
  intro k'
  induction k' with
  | zero => intro j Ln V h1 h2; omega
  | succ k ih =>
    intro j Ln V h1 h2 hq hR
    rw [mX2_writeCore_go, if_neg (by decide), if_pos rfl]
    unfold mX2_writeCore_b1
    have ih := fun L V1 => ih (j + 1) L V1 (by omega)
    rw [filL] at ih
    refine mTo.le hq.2.1 rfl (by omega) (by omega) (fun z => mTo.ret ?_) (fun z => ?_)
    · have : j = m := by omega
      subst this
      exact ⟨hR, hq⟩
    · refine mTo.hs (S := S) (j := j) rfl rfl (by omega) (by omega) (fun y => mTo.lt ?_) (fun y => ?_)
      · rw [if_neg (by rw [y]; decide)] at ih
        rw [nI_1]
        exact ih Ln V (by omega) hq hR
      · rw [if_pos y] at ih
        have fl := (filL_in (X := fun v => S.testBit v) j).2.2
        refine mTo.A (T_radd hk hR (by rw [List.length_cons]; omega)) (fun a L1 V1 _ q => mTo.lt ?_)
        obtain ⟨q1, q2, _⟩ := q
        have q2 : mAv (wX9_add (e + 2)) V V1 := q2
        rw [nI_1]
        exact ih L1 V1 (by omega) (hq.mv q2 (by unfold wX9_add; omega) (by unfold wX9_add; omega)) q1
theorem T_wC0 {F e s m : Nat} {b : Int32} {d : Nat → Int32} {A B : Nat → Nat} (hF : 2 ^ 22 ≤ F) (hk : mK (e + 2) = 9) (he : 256 ≤ e) (he2 : e < 1024) (hs : s ≤ 7) (hm : m ≤ 11) (hd : qP d s m A B) : ∀ k' j S Ln (V : mV), j + 20 < k' → j ≤ m → S < 2 ^ 11 → enQ V e s m b d → rowIs Ln V (e + 2) [] → mTo (mX2_writeCore_go F k' 0 Ln e (nI S) (nI j - 1) V) (fun p => rowIs p.2.1 p.2.2 (e + 2) (rwC m A B (coS m A B j S)) ∧ enQ p.2.2 e s m b d) := by
  intro k'
  induction k' with
  | zero => intro j S Ln V h1; omega
  | succ k ih =>
    intro j S Ln V h1 h2 h3 hq hR
    have hset : ∀ S, S < 2 ^ 11 → ∀ i, i < m → mX11_has F (nI S) (nI i) = some (if (fun i => S.testBit i) i = true then 1 else 0) := fun S hS i hi => nb_has (by omega) (by omega)
    rw [mX2_writeCore_go, if_pos rfl]
    unfold mX2_writeCore_b0
    cases j with
    | zero =>
      have neg : nI 0 - 1 < 0 := by decide
      rw [if_pos neg, coS]
      have hg : gph (nbS m A B S) s := near_gph hs hm hd
      refine mTo.W (T_loadEdges (P := fun i => S.testBit i) hF he hs hm hd hq (hset S h3)) (fun _ V1 _ q => ?_)
      obtain ⟨q1, q2, q3⟩ := q
      have q1 : edS V1 (nbS m A B S) s := q1
      have q3 : mAv (wX2_loadEdges e) V V1 := q3
      have hq1 := hq.mv q3 (by unfold wX2_loadEdges; omega) (by unfold wX2_loadEdges; omega)
      have hR1 := hR.mv q3 (by unfold wX2_loadEdges; omega) (by unfold wX2_loadEdges; omega)
      refine mTo.N (T_countBranches (k := 2) (by omega) hg q1 (by omega)) (fun v _ hv => ?_)
      subst hv
      have c7 : cbP (nbS m A B S) 2 ≤ 7 := cnt_n 7
      have put : ∀ kd, kdN (nbS m A B S) = kd → mTo (mBA (mX9_add F Ln (e + 2) (nI kd) V1) fun v18 L19 V19 => (mX2_writeCore_go F k 1 L19 e (nI S) ((0 : Int32)) V19)) (fun p => rowIs p.2.1 p.2.2 (e + 2) (rwC m A B S) ∧ enQ p.2.2 e s m b d) := fun kd ek => by
        refine mTo.A (T_radd hk hR1 (by decide)) (fun a L1 V2 _ q => ?_)
        obtain ⟨p1, p2, _⟩ := q
        have p2 : mAv (wX9_add (e + 2)) V1 V2 := p2
        unfold rwC
        rw [ek]
        exact T_wC1 hk he he2 hm h3 k 0 L1 V2 (by omega) (Nat.zero_le _) (hq1.mv p2 (by unfold wX9_add; omega) (by unfold wX9_add; omega)) p1
      refine mTo.eqI (b := 5) rfl rfl (by omega) (by omega) (fun y => put 5 (if_pos y)) (fun y => put 3 (if_neg y))
    | succ j =>
      have ep : nI (j + 1) - 1 = nI j := nI_pred j
      rw [ep, if_neg (nI_pos (by omega))]
      have back : ∀ (S' : Nat) Ln1 (V1 : mV), S' < 2 ^ 11 → enQ V1 e s m b d → rowIs Ln1 V1 (e + 2) [] → mTo (mX2_writeCore_go F k 0 Ln1 e (nI S') (nI j + (-1 : Int32)) V1) (fun p => rowIs p.2.1 p.2.2 (e + 2) (rwC m A B (coS m A B j S')) ∧ enQ p.2.2 e s m b d) := fun S' Ln1 V1 a1 a2 a3 => by
        rw [nI_m1']
        exact ih j S' Ln1 V1 (by omega) (by omega) a1 a2 a3
      refine mTo.hs (S := S) (j := j) rfl rfl (by omega) (by omega) (fun y => mTo.lt ?_) (fun y => ?_)
      · rw [coS, if_neg (fun c => by rw [y] at c; exact absurd c.1 (by decide))]
        exact back S Ln V h3 hq hR
      · have lt : nsd S (2 ^ j) < 2 ^ 11 := nsd_lt h3
        have hg : gph (nbS m A B (nsd S (2 ^ j))) s := near_gph hs hm hd
        rw [nb_one (by omega), nb_not (by omega)]
        refine mTo.W (T_loadEdges (P := fun i => (nsd S (2 ^ j)).testBit i) hF he hs hm hd hq (hset _ lt)) (fun _ V1 _ q => ?_)
        obtain ⟨q1, q2, q3⟩ := q
        have q1 : edS V1 (nbS m A B (nsd S (2 ^ j))) s := q1
        have q3 : mAv (wX2_loadEdges e) V V1 := q3
        have hq1 := hq.mv q3 (by unfold wX2_loadEdges; omega) (by unfold wX2_loadEdges; omega)
        have hR1 := hR.mv q3 (by unfold wX2_loadEdges; omega) (by unfold wX2_loadEdges; omega)
        refine mTo.W (T_fills (F := F) (by omega) hg q1 q2) (fun v35 V2 _ q => ?_)
        obtain ⟨p1, p2⟩ := q
        have p1 : mAv wX2_fillsFrom V1 V2 := p1
        have hq2 := hq1.mv p1 (by unfold wX2_fillsFrom; omega) (by unfold wX2_fillsFrom; omega)
        have hR2 := hR1.mv p1 (by unfold wX2_fillsFrom; omega) (by unfold wX2_fillsFrom; omega)
        rcases p2 with ⟨v1, w, _⟩ | ⟨v0, w⟩
        · have v1 : v35 = 1 := v1
          rw [v1, if_neg (by decide), coS, if_neg (fun c => c.2 w)]
          exact mTo.lt (back S Ln V2 h3 hq2 hR2)
        · have v0 : v35 = 0 := v0
          rw [v0, if_pos rfl, coS, if_pos ⟨y, w⟩]
          exact mTo.lt (mTo.lt (back _ Ln V2 lt hq2 hR2))
/-- the row that is kept -/
noncomputable def rowDr (m b : Nat) (A B : Nat → Nat) : List Int32 := @ite _ (drnE (nbP m b A B)) (Classical.propDecidable _) (rwL (tLe (nbP m b A B)) (sdN (nbP m b A B) 7)) (rwC m A B (coS m A B m (2 ^ min m b - 1)))
theorem T_solveDrawings {F e s m b : Nat} {Ln : Nat → Nat} {A B : Nat → Nat} {d : Nat → Int32} {V : mV} (hF : 2 ^ 22 ≤ F) (he : 256 ≤ e) (he2 : e < 1024) (hk : mK (e + 2) = 9) (hs : s ≤ 7) (s0 : 0 < s) (hm : m ≤ 11) (hb : b ≤ 11) (hd : qP d s m A B) (hq : enQ V e s m (nI b) d) (hR : rowIs Ln V (e + 2) []) : mTo (mX2_solve F Ln e V) (fun p => (drnE (nbP m b A B) → p.2.2.fI e 11 = 121 ∧ p.2.2.fI e 12 = dueI (nbP m b A B) (s - 1)) ∧ (¬ drnE (nbP m b A B) → p.2.2.fI e 11 = 110 ∧ p.2.2.fI e 12 = 0) ∧ rowIs p.2.1 p.2.2 (e + 2) (rowDr m b A B)) := by
  have hg : gph (nbP m b A B) s := near_gph hs hm hd
  have g6 := hg.2.2.2.2.2
  unfold mX2_solve mX2_solve_s
  refine mTo.so (T_counted hm hb hq) (mTo.W (T_loadEdges (P := fun i => decide (i < min m b)) hF he hs hm hd hq (fun i hi => has_full (by omega) (by omega))) (fun _ V1 _ q => ?_))
  obtain ⟨q1, q2, q3⟩ := q
  have q1 : edS V1 (nbP m b A B) s := q1
  have q3 : mAv (wX2_loadEdges e) V V1 := q3
  have hq1 := hq.mv q3 (by unfold wX2_loadEdges; omega) (by unfold wX2_loadEdges; omega)
  have hR1 := hR.mv q3 (by unfold wX2_loadEdges; omega) (by unfold wX2_loadEdges; omega)
  refine mTo.W (T_fills (F := F) (by omega) hg q1 q2) (fun v29 V2 _ q => ?_)
  obtain ⟨p1, p2⟩ := q
  have p1 : mAv wX2_fillsFrom V1 V2 := p1
  have hq2 := hq1.mv p1 (by unfold wX2_fillsFrom; omega) (by unfold wX2_fillsFrom; omega)
  have hR2 := hR1.mv p1 (by unfold wX2_fillsFrom; omega) (by unfold wX2_fillsFrom; omega)
  have E2 : edS V2 (nbP m b A B) s := q1.mv p1 (by unfold wX2_fillsFrom; omega) (by unfold wX2_fillsFrom; omega) (by unfold wX2_fillsFrom; omega) (by unfold wX2_fillsFrom; omega) (by unfold wX2_fillsFrom; omega)
  obtain ⟨G, hG⟩ : ∃ G, G = nbP m b A B := ⟨_, rfl⟩
  rcases p2 with ⟨v1, w, t, sg, k1, k2, k3⟩ | ⟨v0, w⟩
  · have v1 : v29 = 1 := v1
    subst v1
    rw [if_neg (by decide)]
    unfold rowDr
    rw [if_pos w, ← rwL_c _ k2]
    rw [← hG] at w k1 k2 k3 E2 hg g6
    rw [← hG]
    have e1 : nI s - 1 = nI (s - 1) := by
      obtain ⟨x, hx⟩ : ∃ x, s = x + 1 := ⟨s - 1, by omega⟩
      rw [hx, Nat.add_sub_cancel]
      exact nI_pred x
    have go : ∀ k' j Ln (V : mV), sdN G 7 < j + k' → j ≤ sdN G 7 → edS V G s → prV V G t (sdN G 7) → rowIs Ln V (e + 2) (rwL t j) → mTo (mX2_solve_go F k' 0 Ln e (nI j) V) (fun p => (drnE G → p.2.2.fI e 11 = 121 ∧ p.2.2.fI e 12 = dueI G (s - 1)) ∧ (¬ drnE G → p.2.2.fI e 11 = 110 ∧ p.2.2.fI e 12 = 0) ∧ rowIs p.2.1 p.2.2 (e + 2) (rwL t (sdN G 7))) := by
      intro k'
      induction k' with
      | zero => intro j Ln V h1 h2; omega
      | succ k ih =>
        intro j Ln V h1 h2 hE hV hR
        rw [mX2_solve_go, if_pos rfl]
        unfold mX2_solve_b0
        refine mTo.le hE.2.1 rfl (by omega) (by omega) (fun z => ?_) (fun z => mTo.ix rfl (by omega) (by omega) ?_)
        · have ej : j = sdN G 7 := by omega
          rw [hE.1, e1]
          have ok : okR G t sg (s - 1 + 1) := fun u hu => k1.1 u (by omega)
          refine mTo.N (T_countWalks (by omega) hg hE (show s - 1 < s by omega) ok (okT_rg (s := sg) (show s - 1 < 7 by omega) hV (sdN_mono 7 (by omega)))) (fun v _ hv => ?_)
          subst hv
          rw [(due_iff hg (by omega) ok).mpr (gd_at hg (by omega) (by omega) k1)]
          refine mTo.W T_tell (fun _ V3 _ q => mTo.ret ?_)
          obtain ⟨t1, t2, t3, t4, t5, t6⟩ := q
          have t1 : V3.fI e 11 = 121 := by
            rw [t1, if_neg (by decide)]
          refine ⟨fun _ => ⟨t1, t2⟩, fun c => absurd w c, ?_⟩
          rw [ej] at hR
          obtain ⟨r1, r2, r3, r4⟩ := hR
          have t6 : V3.fI (e + 2) = V.fI (e + 2) := t6 (e + 2) (by omega)
          have t4 : V3.rI = V.rI := t4
          exact ⟨by rw [t6]; exact r1, r2, r3, fun i hi => by rw [t4]; exact r4 i hi⟩
        · rw [nI_clamp (n := j) (by omega), hV.1 j z]
          refine mTo.A (T_radd hk hR (by rw [rwL_len]; omega)) (fun a L1 V3 _ q => mTo.lt ?_)
          obtain ⟨r1, r2, _⟩ := q
          have r2 : mAv (wX9_add (e + 2)) V V3 := r2
          rw [nI_1]
          have fr : ∀ a, a < 256 → V3.rI a = V.rI a := fun a ha => (r2.1 a (by unfold wX9_add; omega)).2.2.1
          refine ih (j + 1) L1 V3 (by omega) (by omega) (hE.mv r2 (by unfold wX9_add; omega) (by unfold wX9_add; omega) (by unfold wX9_add; omega) (by unfold wX9_add; omega) (by unfold wX9_add; omega)) ?_ r1
          unfold prV at hV ⊢
          rw [fr 31 (by omega), fr 32 (by omega), fr 28 (by omega)]
          exact hV
    exact go F 0 Ln V2 (by omega) (Nat.zero_le _) E2 k3 hR2
  · have v0 : v29 = 0 := v0
    subst v0
    rw [if_pos rfl]
    unfold rowDr
    rw [if_neg w]
    have lt : 2 ^ min m b - 1 < 2 ^ 11 := by
      have : 2 ^ min m b ≤ 2 ^ 11 := Nat.pow_le_pow_right (by decide) (by omega)
      have := Nat.pow_pos (n := min m b) (show 0 < 2 by decide)
      omega
    have wc : mTo (mX2_writeCore F Ln e (nI (2 ^ min m b - 1)) V2) (fun p => rowIs p.2.1 p.2.2 (e + 2) (rwC m A B (coS m A B m (2 ^ min m b - 1))) ∧ enQ p.2.2 e s m (nI b) d) := by
      unfold mX2_writeCore mX2_writeCore_s
      refine mTo.lt ?_
      rw [hq2.2.1]
      exact T_wC0 hF hk he he2 hs hm hd F m _ Ln V2 (by omega) (Nat.le_refl _) lt hq2 hR2
    refine mTo.A wc (fun _ L3 V3 _ q => ?_)
    obtain ⟨r1, r2⟩ := q
    have r1 : rowIs L3 V3 (e + 2) (rwC m A B (coS m A B m (2 ^ min m b - 1))) := r1
    refine mTo.W T_tell (fun _ V4 _ q => mTo.ret ?_)
    obtain ⟨t1, t2, t3, t4, t5, t6⟩ := q
    have t1 : V4.fI e 11 = 110 := by
      rw [t1, if_pos rfl]
    have t6 : V4.fI (e + 2) = V3.fI (e + 2) := t6 (e + 2) (by omega)
    have t4 : V4.rI = V3.rI := t4
    obtain ⟨r11, r12, r13, r14⟩ := r1
    exact ⟨fun c => absurd c w, fun _ => ⟨t1, t2⟩, by rw [t6]; exact r11, r12, r13, fun i hi => by rw [t4]; exact r14 i hi⟩
end
