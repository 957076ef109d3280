/-! THE PURE PART, roots: the solver. -/
section
def wpP (ch : List (List Int × Nat)) : Nat → Nat → Nat → List (Nat × Nat)
  | 0, _, _ => []
  | f + 1, k, i => if rtN ch k i = 1 then [(k, i)] else if rtN ch k i ≤ 1 then [] else if 16 ≤ k then [] else wpP ch f (k + 1) (2 * i) ++ wpP ch f (k + 1) (2 * i + 1)
def flP : List (Nat × Nat) → List Int32
  | [] => []
  | (k, i) :: r => nI k :: nI i :: flP r
theorem flP_app : ∀ a b, flP (a ++ b) = flP a ++ flP b
  | [], _ => rfl
  | (k, i) :: r, b => by
    show nI k :: nI i :: flP (r ++ b) = nI k :: nI i :: (flP r ++ flP b)
    rw [flP_app r b]
theorem flP_len : ∀ a, (flP a).length = 2 * a.length
  | [] => rfl
  | (k, i) :: r => by
    show (flP r).length + 1 + 1 = 2 * (r.length + 1)
    rw [flP_len r]
    omega
theorem flP_at : ∀ a j, j < a.length → (flP a).getD (2 * j) 0 = nI (a.getD j (0, 0)).1 ∧ (flP a).getD (2 * j + 1) 0 = nI (a.getD j (0, 0)).2
  | [], j, h => absurd h (Nat.not_lt_zero _)
  | (k, i) :: r, 0, _ => ⟨rfl, rfl⟩
  | (k, i) :: r, j + 1, h => by
    have := flP_at r j (Nat.lt_of_succ_lt_succ h)
    rw [show 2 * (j + 1) = 2 * j + 1 + 1 by omega]
    exact this
/-- parts in their order, from lo to hi of 65536 places -/
def ordL (ch : List (List Int × Nat)) (hi : Nat) : Nat → List (Nat × Nat) → Prop
  | lo, [] => lo ≤ hi
  | lo, (k, i) :: r => k ≤ 16 ∧ i < 2 ^ k ∧ rtN ch k i = 1 ∧ lo ≤ plc k i ∧ ordL ch hi (plc k (i + 1)) r
theorem plc_lt {k i : Nat} : plc k i ≤ plc k (i + 1) := Nat.mul_le_mul_right _ (by omega)
theorem ordL_le {ch : List (List Int × Nat)} {hi : Nat} : ∀ {lo : Nat} {a : List (Nat × Nat)}, ordL ch hi lo a → lo ≤ hi
  | _, [], h => h
  | lo, (k, i) :: r, h => by
    have := ordL_le h.2.2.2.2
    have := h.2.2.2.1
    have := plc_lt (k := k) (i := i)
    omega
theorem ordL_app {ch : List (List Int × Nat)} {mid hi : Nat} : ∀ {lo : Nat} {a b : List (Nat × Nat)}, ordL ch mid lo a → ordL ch hi mid b → ordL ch hi lo (a ++ b)
  | lo, [], [], h1, h2 => Nat.le_trans h1 h2
  | lo, [], (k, i) :: r, h1, h2 => ⟨h2.1, h2.2.1, h2.2.2.1, Nat.le_trans h1 h2.2.2.2.1, h2.2.2.2.2⟩
  | lo, (k, i) :: r, b, h1, h2 => ⟨h1.1, h1.2.1, h1.2.2.1, h1.2.2.2.1, ordL_app h1.2.2.2.2 h2⟩
theorem plc_half (k i : Nat) (hk : k < 16) : plc k i = plc (k + 1) (2 * i) := by
  unfold plc
  obtain ⟨c, hc⟩ : ∃ c, 16 - k = c + 1 := ⟨15 - k, by omega⟩
  rw [hc, show 16 - (k + 1) = c by omega, Nat.pow_succ]
  generalize (2 : Nat) ^ c = w
  grind
theorem wpP_ord {ch : List (List Int × Nat)} (ok : okC ch) : ∀ f k i, k + f = 17 → 1 ≤ f → i < 2 ^ k → ordL ch (plc k (i + 1)) (plc k i) (wpP ch f k i) ∧ (wpP ch f k i).length = rtN ch k i
  | 0, _, _, _, h, _ => by omega
  | f + 1, k, i, h1, _, hi => by
    rw [wpP]
    by_cases a : rtN ch k i = 1
    · rw [if_pos a]
      exact ⟨⟨by omega, hi, a, Nat.le_refl _, Nat.le_refl _⟩, a.symm⟩
    · rw [if_neg a]
      by_cases b : rtN ch k i ≤ 1
      · rw [if_pos b]
        exact ⟨plc_lt, by show 0 = _; omega⟩
      · rw [if_neg b]
        by_cases c : 16 ≤ k
        · have : k = 16 := by omega
          subst this
          exact absurd (rt_16 ok i) b
        · rw [if_neg c]
          have p2 : (2 : Nat) ^ (k + 1) = 2 * 2 ^ k := by rw [Nat.pow_succ]; omega
          obtain ⟨o1, l1⟩ := wpP_ord ok f (k + 1) (2 * i) (by omega) (by omega) (by omega)
          obtain ⟨o2, l2⟩ := wpP_ord ok f (k + 1) (2 * i + 1) (by omega) (by omega) (by omega)
          have e0 := plc_half k i (by omega)
          have e1 := plc_half k (i + 1) (by omega)
          rw [show 2 * (i + 1) = 2 * i + 1 + 1 by omega] at e1
          rw [e0, e1]
          refine ⟨ordL_app o1 o2, ?_⟩
          rw [List.length_append, l1, l2, ← rt_half ok]
theorem ordL_at {ch : List (List Int × Nat)} {hi : Nat} : ∀ {lo : Nat} {a : List (Nat × Nat)}, ordL ch hi lo a → (∀ j, j < a.length → (a.getD j (0, 0)).1 ≤ 16 ∧ (a.getD j (0, 0)).2 < 2 ^ (a.getD j (0, 0)).1 ∧ rtN ch (a.getD j (0, 0)).1 (a.getD j (0, 0)).2 = 1) ∧ (∀ j, j + 1 < a.length → plc (a.getD j (0, 0)).1 ((a.getD j (0, 0)).2 + 1) ≤ plc (a.getD (j + 1) (0, 0)).1 (a.getD (j + 1) (0, 0)).2)
  | _, [], _ => ⟨fun j h => absurd h (Nat.not_lt_zero _), fun j h => absurd h (Nat.not_lt_zero _)⟩
  | lo, (k, i) :: r, h => by
    obtain ⟨h1, h2, h3, _, h5⟩ := h
    obtain ⟨a1, a2⟩ := ordL_at h5
    refine ⟨fun j hj => ?_, fun j hj => ?_⟩
    · cases j with
      | zero => exact ⟨h1, h2, h3⟩
      | succ j => exact a1 j (Nat.lt_of_succ_lt_succ hj)
    · cases j with
      | zero =>
        cases r with
        | nil => exact absurd hj (by show ¬ 0 + 1 < 1; omega)
        | cons x r => exact h5.2.2.2.1
      | succ j => exact a2 j (Nat.lt_of_succ_lt_succ hj)
def rowsR (ch : List (List Int × Nat)) : Nat → List Int32
  | 0 => []
  | j + 1 => rowsR ch j ++ [sgR ch j]
theorem rowsR_len {ch : List (List Int × Nat)} : ∀ n, (rowsR ch n).length = n
  | 0 => rfl
  | n + 1 => by
    rw [rowsR, List.length_append, rowsR_len n]
    rfl
theorem rowsR_at {ch : List (List Int × Nat)} {i : Nat} : ∀ n, i < n → (rowsR ch n).getD i 0 = sgR ch i
  | 0, h => absurd h (Nat.not_lt_zero _)
  | n + 1, h => by
    rw [rowsR, getD_snoc, rowsR_len]
    by_cases e : i < n
    · rw [if_pos e]
      exact rowsR_at n e
    · have : i = n := by omega
      rw [if_neg e, if_pos this, this]
/-- is it so, and the row that is kept -/
noncomputable def manyR (d : Nat → Int32) (m : Nat) : Nat := rtN (chnR d m) 0 0
noncomputable def rowR (d : Nat → Int32) (m b : Nat) : List Int32 := if manyR d m < b then rowsR (chnR d m) (2 * (chnR d m).length) else flP (wpP (chnR d m) 17 0 0)
theorem rowR_yes {d : Nat → Int32} {m b : Nat} (hd : qR d m) (h : b ≤ manyR d m) : partsOK (chnR d m) b (rowR d m b) ∧ (rowR d m b).length ≤ 8 := by
  obtain ⟨_, ok⟩ := chnR_ok hd
  have e : rowR d m b = flP (wpP (chnR d m) 17 0 0) := if_neg (by omega)
  rw [e]
  obtain ⟨o, l⟩ := wpP_ord ok 17 0 0 (by omega) (by omega) (by decide)
  obtain ⟨a1, a2⟩ := ordL_at o
  obtain ⟨L, hL⟩ : ∃ L, L = wpP (chnR d m) 17 0 0 := ⟨_, rfl⟩
  rw [← hL] at l a1 a2 ⊢
  have len := flP_len L
  have rl : rtN (chnR d m) 0 0 ≤ 4 := Nat.le_trans (Nat.sub_le _ _) (VG_le ok _ _)
  have pw : ∀ j, j < L.length → (L.getD j (0, 0)).2 < 65536 := fun j hj => Nat.lt_of_lt_of_le (a1 j hj).2.1 (show _ ≤ 2 ^ 16 from Nat.pow_le_pow_right (by decide) (a1 j hj).1)
  have kx : ∀ j, j < L.length → kX (flP L) j = (L.getD j (0, 0)).1 ∧ iX (flP L) j = (L.getD j (0, 0)).2 := fun j hj => by
    obtain ⟨f1, f2⟩ := flP_at L j hj
    have := (a1 j hj).1
    have := pw j hj
    unfold kX iX
    rw [f1, f2, nI_toInt (by omega), nI_toInt (by omega)]
    exact ⟨by omega, by omega⟩
  refine ⟨⟨by omega, fun j hj => ?_, fun j hj => ?_, ?_, fun j hj => ?_⟩, by omega⟩
  · obtain ⟨k1, k2⟩ := kx j (by omega)
    obtain ⟨f1, f2⟩ := flP_at L j (by omega)
    unfold vldP
    rw [k1, k2]
    exact ⟨f1, (a1 j (by omega)).1, f2, (a1 j (by omega)).2.1⟩
  · obtain ⟨k1, k2⟩ := kx j (by omega)
    obtain ⟨k3, k4⟩ := kx (j + 1) (by omega)
    unfold ordP
    rw [k1, k2, k3, k4]
    exact (plc_ord (a1 j (by omega)).1 (a1 (j + 1) (by omega)).1).mpr (a2 j (by omega))
  · rw [len, l]
    unfold manyR at h
    omega
  · obtain ⟨k1, k2⟩ := kx j (by omega)
    rw [k1, k2, (a1 j (by omega)).2.2]
    exact Nat.le_refl _
theorem rowR_no {d : Nat → Int32} {m b : Nat} (h : manyR d m < b) : signsOK (chnR d m) b (rowR d m b) := by
  unfold rowR
  rw [if_pos h]
  refine ⟨rowsR_len _, fun j hj => ?_, h⟩
  rw [rowsR_len] at hj
  exact rowsR_at _ hj
theorem chI_av {V V1 : mV} {ch : List (List Int × Nat)} {w : Nat → Prop} (h : chI V ch) (a : mAv w V V1) (hw : ∀ i, i < 100 → ¬ w i) (hl : ch.length ≤ 5) : chI V1 ch := by
  refine ⟨by rw [(a.1 6 (hw _ (by omega))).1]; exact h.1, fun i hi => ?_⟩
  obtain ⟨h1, h2⟩ := h.2 i hi
  refine ⟨by rw [(a.1 67 (hw _ (by omega))).2.2.1]; exact h1, fun k hk => ?_⟩
  rw [(a.1 (62 + i) (hw _ (by omega))).2.2.2]
  exact h2 k hk
theorem T_writeParts {F r : Nat} {ch : List (List Int × Nat)} (hF : 1000 ≤ F) (hk9 : mK r = 9) (hr : 100 ≤ r) (ok : okC ch) : ∀ f fu k i (Ln : Nat → Nat) (V : mV) (acc : List Int32), k + f = 17 → 1 ≤ f → f ≤ fu → i < 2 ^ k → chI V ch → rowIs Ln V r acc → acc.length + 2 * rtN ch k i ≤ 1000 → mTo (mX8_writeParts F fu Ln (nI k) (nI i) r V) (fun p => rowIs p.2.1 p.2.2 r (acc ++ flP (wpP ch f k i)) ∧ chI p.2.2 ch) := by
  have l4 := (okC_d ok).2
  intro f
  induction f with
  | zero => intro fu k i Ln V acc h1 h2; omega
  | succ f ih =>
    intro fu k i Ln V acc h1 h2 h3 h4 hc hR hl
    obtain ⟨g, rfl⟩ : ∃ g, fu = g + 1 := ⟨fu - 1, by omega⟩
    rw [mX8_writeParts]
    unfold mX8_writeParts_a
    refine mTo.so (T_rootsOfPart hF hc ok (by omega) h4) ?_
    have rl : rtN ch k i ≤ 4 := Nat.le_trans (Nat.sub_le _ _) (VG_le ok _ _)
    have wa : ∀ x, x < 100 → ¬ wX9_add r x := fun x hx => by unfold wX9_add; omega
    rw [wpP]
    refine mTo.eqI (b := 1) rfl rfl (by omega) (by omega) (fun z => ?_) (fun z => ?_)
    · rw [if_pos z]
      refine mTo.A (T_radd hk9 hR (by omega)) (fun a L1 V1 _ q => ?_)
      obtain ⟨q1, q2, _⟩ := q
      have q1 : rowIs L1 V1 r (acc ++ [nI k]) := q1
      have q2 : mAv (wX9_add r) V V1 := q2
      refine mTo.A (T_radd hk9 q1 (by rw [List.length_append]; show acc.length + 1 < 1024; omega)) (fun a L2 V2 _ q => mTo.ret ?_)
      obtain ⟨q3, q4, _⟩ := q
      have q3 : rowIs L2 V2 r (acc ++ [nI k] ++ [nI i]) := q3
      have q4 : mAv (wX9_add r) V1 V2 := q4
      rw [List.append_assoc] at q3
      exact ⟨q3, chI_av (chI_av hc q2 wa (by omega)) q4 wa (by omega)⟩
    · rw [if_neg z]
      refine mTo.le (b := 1) rfl rfl (by omega) (by omega) (fun y => ?_) (fun y => ?_)
      · rw [if_pos y]
        show mTo _ (fun p : Unit × (Nat → Nat) × mV => rowIs p.2.1 p.2.2 r (acc ++ []) ∧ chI p.2.2 ch)
        rw [List.append_nil]
        exact mTo.ret ⟨hR, hc⟩
      · rw [if_neg (show ¬ rtN ch k i ≤ 1 by omega)]
        refine mTo.le (a := 16) rfl rfl (by omega) (by omega) (fun x => ?_) (fun x => ?_)
        · rw [if_pos x]
          show mTo _ (fun p : Unit × (Nat → Nat) × mV => rowIs p.2.1 p.2.2 r (acc ++ []) ∧ chI p.2.2 ch)
          rw [List.append_nil]
          exact mTo.ret ⟨hR, hc⟩
        · rw [if_neg (show ¬ 16 ≤ k by omega), flP_app, ← List.append_assoc]
          have p2 : (2 : Nat) ^ (k + 1) = 2 * 2 ^ k := by rw [Nat.pow_succ]; omega
          have hh := rt_half ok k i
          have l1 := (wpP_ord ok f (k + 1) (2 * i) (by omega) (by omega) (by omega)).2
          rw [nI_1, show (2 : Int32) * nI i = nI (2 * i) from nI_mulC 2 i, nI_1]
          refine mTo.A (ih g (k + 1) (2 * i) Ln V acc (by omega) (by omega) (by omega) (by omega) hc hR (by omega)) (fun a L1 V1 _ q => ?_)
          obtain ⟨q1, q2⟩ := q
          have q1 : rowIs L1 V1 r (acc ++ flP (wpP ch f (k + 1) (2 * i))) := q1
          have q2 : chI V1 ch := q2
          refine mTo.A (ih g (k + 1) (2 * i + 1) L1 V1 _ (by omega) (by omega) (by omega) (by omega) q2 q1 (by rw [List.length_append, flP_len, l1]; omega)) (fun a L2 V2 _ q => mTo.ret q)
theorem T_solveRoots {F e s m b : Nat} {Ln : Nat → Nat} {d : Nat → Int32} {V : mV} (hF : 2 ^ 22 ≤ F) (he : 256 ≤ e) (he2 : e < 1024) (hk9 : mK (e + 2) = 9) (hm : m ≤ 16) (hb : b < 2 ^ 20) (hd : qR d m) (hq : enQ V e s m (nI b) d) (hR : rowIs Ln V (e + 2) []) : mTo (mX8_solveRoots F Ln e V) (fun p => (b ≤ manyR d m → p.2.2.fI e 11 = 121) ∧ (manyR d m < b → p.2.2.fI e 11 = 110) ∧ p.2.2.fI e 12 = nI (manyR d m) ∧ rowIs p.2.1 p.2.2 (e + 2) (rowR d m b)) := by
  obtain ⟨_, ok⟩ := chnR_ok hd
  have l4 := (okC_d ok).2
  unfold mX8_solveRoots mX8_solveRoots_s
  obtain ⟨p, p1, p2⟩ := T_buildChain hF he hm hq hd
  have fr := NX8_buildChain (v := p.1) (V1 := p.2) p1
  refine mTo.W (Q := fun x => x = p) ⟨p, p1, rfl⟩ (fun v V1 _ x => ?_)
  have eV : V1 = p.2 := congrArg Prod.snd x
  rw [eV]
  have hR1 : rowIs Ln p.2 (e + 2) [] := hR.mv fr (by unfold wX8_buildChain; omega) (by unfold wX8_buildChain; omega)
  have hq1 : enQ p.2 e s m (nI b) d := enQ.mv hq fr (by unfold wX8_buildChain; omega) (by unfold wX8_buildChain; omega)
  have rl : rtN (chnR d m) 0 0 ≤ 4 := Nat.le_trans (Nat.sub_le _ _) (VG_le ok _ _)
  refine mTo.so (T_rootsOfPart (k := 0) (i := 0) (by omega) p2 ok (by omega) (by decide)) ?_
  have told : ∀ (x : Int32), mTo (mX3_tell F e x (nI (rtN (chnR d m) 0 0)) p.2) (fun q => q.2.fI e 11 = (if x = 0 then (110 : Int32) else 121) ∧ q.2.fI e 12 = nI (manyR d m) ∧ rowIs Ln q.2 (e + 2) [] ∧ chI q.2 (chnR d m)) := fun x => by
    obtain ⟨q, e1, t1, t2, t3, t4, t4', t5⟩ := T_tell (F := F) (e := e) (x := x) (t := nI (rtN (chnR d m) 0 0)) (V := p.2)
    refine ⟨q, e1, t1, t2, ?_, ?_⟩
    · obtain ⟨a1, a2, a3, a4⟩ := hR1
      exact ⟨by rw [t5 _ (by omega)]; exact a1, a2, a3, fun i hi => by rw [t4]; exact a4 i hi⟩
    · refine ⟨by rw [t5 6 (by omega)]; exact p2.1, fun i hi => ?_⟩
      obtain ⟨h1, h2⟩ := p2.2 i hi
      exact ⟨by rw [t4]; exact h1, fun k hk => by rw [t4']; exact h2 k hk⟩
  have wa : ∀ x, x < 100 → ¬ wX9_add (e + 2) x := fun x hx => by unfold wX9_add; omega
  refine mTo.ltI rfl hq1.2.2.1 (by omega) (by omega) (fun z => ?_) (fun z => ?_)
  · refine mTo.W (told 0) (fun u V2 _ q => ?_)
    obtain ⟨q1, q2, q3, q4⟩ := q
    have q1 : V2.fI e 11 = 110 := by
      have : V2.fI e 11 = (if (0 : Int32) = 0 then (110 : Int32) else 121) := q1
      rw [if_pos rfl] at this
      exact this
    have q2 : V2.fI e 12 = nI (manyR d m) := q2
    have q3 : rowIs Ln V2 (e + 2) [] := q3
    have q4 : chI V2 (chnR d m) := q4
    have rw1 : rowR d m b = rowsR (chnR d m) (2 * (chnR d m).length) := if_pos z
    have go : ∀ k' j (L2 : Nat → Nat) (V2 : mV), 2 * (chnR d m).length < j + k' → j ≤ 2 * (chnR d m).length → V2.fI e 11 = 110 → V2.fI e 12 = nI (manyR d m) → rowIs L2 V2 (e + 2) (rowsR (chnR d m) j) → chI V2 (chnR d m) → mTo (mX8_solveRoots_go F k' 0 L2 e (nI j) V2) (fun p => (b ≤ manyR d m → p.2.2.fI e 11 = 121) ∧ (manyR d m < b → p.2.2.fI e 11 = 110) ∧ p.2.2.fI e 12 = nI (manyR d m) ∧ rowIs p.2.1 p.2.2 (e + 2) (rowR d m b)) := by
      intro k'
      induction k' with
      | zero => intro j L2 V2 h; omega
      | succ k ih =>
        intro j L2 V2 c1 c2 c3 c4 c5 c6
        rw [mX8_solveRoots_go, if_pos rfl]
        unfold mX8_solveRoots_b0
        have tw : (2 : Int32) * V2.fI 6 8 = nI (2 * (chnR d m).length) := by
          rw [c6.1]
          exact nI_mulC 2 _
        refine mTo.le tw rfl (by omega) (by omega) (fun y => mTo.ret ⟨fun w => absurd z (by show ¬ rtN (chnR d m) 0 0 < b; unfold manyR at w; omega), fun _ => c3, c4, ?_⟩) (fun y => mTo.so (T_signInRow (by omega) c6 ok y) ?_)
        · have : j = 2 * (chnR d m).length := by omega
          rw [rw1, ← this]
          exact c5
        · refine mTo.A (T_radd hk9 c5 (by rw [rowsR_len]; omega)) (fun a L3 V3 _ q => mTo.lt ?_)
          obtain ⟨r1, r2, _⟩ := q
          have r1 : rowIs L3 V3 (e + 2) (rowsR (chnR d m) j ++ [sgR (chnR d m) j]) := r1
          have r2 : mAv (wX9_add (e + 2)) V2 V3 := r2
          have fe := (r2.1 e (by unfold wX9_add; omega)).1
          rw [nI_1]
          exact ih (j + 1) L3 V3 (by omega) (by omega) (by rw [fe]; exact c3) (by rw [fe]; exact c4) r1 (chI_av c6 r2 wa (by omega))
    exact go F 0 Ln V2 (by omega) (Nat.zero_le _) q1 q2 q3 q4
  · refine mTo.W (told 1) (fun u V2 _ q => ?_)
    obtain ⟨q1, q2, q3, q4⟩ := q
    have q1 : V2.fI e 11 = 121 := by
      have : V2.fI e 11 = (if (1 : Int32) = 0 then (110 : Int32) else 121) := q1
      rw [if_neg (by decide)] at this
      exact this
    have q2 : V2.fI e 12 = nI (manyR d m) := q2
    have rw1 : rowR d m b = flP (wpP (chnR d m) 17 0 0) := if_neg (show ¬ rtN (chnR d m) 0 0 < b by omega)
    obtain ⟨t, t0, t1, t2⟩ := T_writeParts (F := F) (r := e + 2) (ch := chnR d m) (by omega) hk9 (by omega) ok 17 48 0 0 Ln V2 [] (by omega) (by omega) (by omega) (by decide) q4 q3 (by show 0 + _ ≤ 1000; omega)
    have fr2 := (NX8_writeParts (v := t.1) (Ln1 := t.2.1) (V1 := t.2.2) t0).1
    have fe := (fr2.1 e (by unfold wX8_writeParts; omega)).1
    refine mTo.A (Q := fun x => x = t) ⟨t, t0, rfl⟩ (fun a L3 V3 _ x => mTo.ret ?_)
    have eL : L3 = t.2.1 := by rw [← x]
    have eV : V3 = t.2.2 := by rw [← x]
    subst eL
    subst eV
    refine ⟨fun _ => ?_, fun w => absurd (show rtN (chnR d m) 0 0 < b from w) (Nat.not_lt.mpr z), ?_, ?_⟩
    · show t.2.2.fI e 11 = _
      rw [fe, q1]
    · show t.2.2.fI e 12 = _
      rw [fe, q2]
    · rw [rw1]
      exact t1
end
