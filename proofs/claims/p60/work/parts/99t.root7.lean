/-! THE PURE PART, roots: the machine's chain. -/
section
def god (L : List Int) (d : Nat) : Prop := len4 L ∧ d ≤ 3 ∧ gZ L d ≠ 0 ∧ (∀ k, k < 4 → (gZ L k).natAbs < 2 ^ 62) ∧ ∀ k, d < k → k < 4 → gZ L k = 0
theorem len4_ex {L : List Int} (h : len4 L) : ∃ a b c d, L = [a, b, c, d] := by
  match L, h with
  | [a, b, c, d], _ => exact ⟨a, b, c, d, rfl⟩
theorem fr_k {L : List Int} (h : len4 L) : len4 (frZ L) ∧ ∃ g : Int, 0 < g ∧ ∀ k, k < 4 → gZ L k = g * gZ (frZ L) k := by
  obtain ⟨a, b, c, d, rfl⟩ := len4_ex h
  obtain ⟨g, x0, x1, x2, x3, g0, e, e0, e1, e2, e3⟩ := frZ_sp a b c d
  rw [e]
  refine ⟨rfl, g, g0, fun k hk => ?_⟩
  rcases (by omega : k = 0 ∨ k = 1 ∨ k = 2 ∨ k = 3) with rfl | rfl | rfl | rfl
  · exact e0
  · exact e1
  · exact e2
  · exact e3
theorem fr_le {L : List Int} {m k : Nat} (h : len4 L) (hk : k < 4) (hm : (gZ L k).natAbs ≤ m) : (gZ (frZ L) k).natAbs ≤ m := by
  obtain ⟨_, g, g0, e⟩ := fr_k h
  exact dv_nab g0 (e k hk) hm
theorem fr_0 {L : List Int} {k : Nat} (h : len4 L) (hk : k < 4) : gZ (frZ L) k = 0 ↔ gZ L k = 0 := by
  obtain ⟨_, g, g0, e⟩ := fr_k h
  rw [e k hk]
  constructor
  · intro z
    rw [z, Int.mul_zero]
  · intro z
    rcases Int.mul_eq_zero.mp z with y | y
    · omega
    · exact y
theorem god_fr {L : List Int} {d : Nat} (h : god L d) : god (frZ L) d := by
  obtain ⟨h1, h2, h3, h4, h5⟩ := h
  refine ⟨(fr_k h1).1, h2, fun z => h3 ((fr_0 h1 (by omega)).mp z), fun k hk => ?_, fun k hk hk4 => (fr_0 h1 hk4).mpr (h5 k hk hk4)⟩
  have := fr_le h1 hk (Nat.le_refl _)
  have := h4 k hk
  omega
theorem dg_sp {L : List Int} {n : Nat} (h : dgZ L = n + 1) : n ≤ 3 ∧ gZ L n ≠ 0 ∧ ∀ k, n < k → k < 4 → gZ L k = 0 := by
  unfold dgZ at h
  by_cases e3 : gZ L 3 = 0
  · rw [if_neg (fun z => z e3)] at h
    by_cases e2 : gZ L 2 = 0
    · rw [if_neg (fun z => z e2)] at h
      by_cases e1 : gZ L 1 = 0
      · rw [if_neg (fun z => z e1)] at h
        by_cases e0 : gZ L 0 = 0
        · rw [if_neg (fun z => z e0)] at h
          omega
        · rw [if_pos e0] at h
          have : n = 0 := by omega
          subst this
          refine ⟨by omega, e0, fun k h1 h2 => ?_⟩
          rcases (by omega : k = 1 ∨ k = 2 ∨ k = 3) with rfl | rfl | rfl
          · exact e1
          · exact e2
          · exact e3
      · rw [if_pos e1] at h
        have : n = 1 := by omega
        subst this
        refine ⟨by omega, e1, fun k h1 h2 => ?_⟩
        rcases (by omega : k = 2 ∨ k = 3) with rfl | rfl
        · exact e2
        · exact e3
    · rw [if_pos e2] at h
      have : n = 2 := by omega
      subst this
      refine ⟨by omega, e2, fun k h1 h2 => ?_⟩
      rw [show k = 3 by omega]
      exact e3
  · rw [if_pos e3] at h
    have : n = 3 := by omega
    subst this
    exact ⟨by omega, e3, fun k h1 h2 => by omega⟩
theorem sm4_of {L : List Int} (h : sm4 L = true) : ∀ k, k < 4 → (gZ L k).natAbs < 2 ^ 62 := by
  unfold sm4 at h
  simp only [Bool.and_eq_true] at h
  intro k hk
  rcases (by omega : k = 0 ∨ k = 1 ∨ k = 2 ∨ k = 3) with rfl | rfl | rfl | rfl
  · exact sm62_of h.1.1.1
  · exact sm62_of h.1.1.2
  · exact sm62_of h.1.2
  · exact sm62_of h.2
theorem ng_k {L : List Int} {k : Nat} (hk : k < 4) : gZ (ngZ L) k = -gZ L k := by
  rcases (by omega : k = 0 ∨ k = 1 ∨ k = 2 ∨ k = 3) with rfl | rfl | rfl | rfl <;> rfl
theorem god_ng {L : List Int} {n : Nat} (h : dgZ L = n + 1) (hs : sm4 L = true) : god (ngZ L) n := by
  obtain ⟨h1, h2, h3⟩ := dg_sp h
  have s := sm4_of hs
  refine ⟨rfl, h1, ?_, fun k hk => ?_, fun k hk hk4 => ?_⟩
  · rw [ng_k (by omega)]
    omega
  · rw [ng_k hk]
    have := s k hk
    omega
  · rw [ng_k hk4, h3 k hk hk4]
    rfl
theorem god_dr {A : List Int} {d : Nat} (h : god A (d + 1)) (hb : ∀ k, k < 4 → (gZ A k).natAbs < 2 ^ 60) : god [gZ A 1, 2 * gZ A 2, 3 * gZ A 3, 0] d := by
  obtain ⟨h1, h2, h3, h4, h5⟩ := h
  have b1 := hb 1 (by omega)
  have b2 := hb 2 (by omega)
  have b3 := hb 3 (by omega)
  refine ⟨rfl, by omega, ?_, fun k hk => ?_, fun k hk hk4 => ?_⟩
  · rcases (by omega : d = 0 ∨ d = 1 ∨ d = 2) with rfl | rfl | rfl
    · exact h3
    · have h3 : gZ A 2 ≠ 0 := h3
      show 2 * gZ A 2 ≠ 0
      omega
    · have h3 : gZ A 3 ≠ 0 := h3
      show 3 * gZ A 3 ≠ 0
      omega
  · rcases (by omega : k = 0 ∨ k = 1 ∨ k = 2 ∨ k = 3) with rfl | rfl | rfl | rfl
    · show (gZ A 1).natAbs < _
      omega
    · show (2 * gZ A 2).natAbs < _
      omega
    · show (3 * gZ A 3).natAbs < _
      omega
    · show (0 : Int).natAbs < 2 ^ 62
      decide
  · rcases (by omega : k = 1 ∨ k = 2 ∨ k = 3) with rfl | rfl | rfl
    · show 2 * gZ A 2 = 0
      rw [h5 2 (by omega) (by omega)]
      rfl
    · show 3 * gZ A 3 = 0
      rw [h5 3 (by omega) (by omega)]
      rfl
    · rfl
theorem dwS_top {b : List Int} {bd : Nat} (h0 : gZ b bd ≠ 0) : ∀ s {L O L1 O1 : List Int}, len4 L → s + bd ≤ 4 → (∀ k, s + bd ≤ k → k < 4 → gZ L k = 0) → dwS (gZ b bd) b bd s L O = some (L1, O1) → len4 L1 ∧ ∀ k, bd ≤ k → k < 4 → gZ L1 k = 0
  | 0, L, O, L1, O1, hl, _, hz, h => by
    rw [dwS] at h
    cases h
    exact ⟨hl, fun k h1 h2 => hz k (by omega) h2⟩
  | s + 1, L, O, L1, O1, hl, hs, hz, h => by
    rw [dwS] at h
    by_cases c : sm62 (gZ L (s + bd) * (gZ b bd).natAbs) = true
    · rw [if_pos c, td_sg h0] at h
      refine dwS_top h0 s (len_dvI (L := mulZ (gZ b bd).natAbs L) _ rfl) (by omega) (fun k h1 h2 => ?_) h
      rw [gZ_dvI (L := mulZ (gZ b bd).natAbs L) (bd + 1) rfl (by omega) k h2, gZ_mul h2]
      by_cases e : k = s + bd
      · subst e
        rw [if_pos (by omega), show s + bd - s = bd by omega, ← sgZ_ab]
        grind
      · rw [if_neg (by omega), hz k (by omega) h2, Int.zero_mul]
    · rw [if_neg c] at h
      cases h
theorem dv_top {a b L O : List Int} {ad bd : Nat} (ha : god a ad) (hb : god b bd) (hd : bd ≤ ad) (h : dvZ a b ad bd = some (L, O)) : len4 L ∧ ∀ k, bd ≤ k → k < 4 → gZ L k = 0 := by
  have := ha.2.1
  exact dwS_top hb.2.2.1 _ ha.1 (by omega) (fun k h1 h2 => ha.2.2.2.2 k (by omega) h2) h
theorem dg_lt {L : List Int} {n bd : Nat} (h : dgZ L = n + 1) (hz : ∀ k, bd ≤ k → k < 4 → gZ L k = 0) : n < bd := by
  obtain ⟨h1, h2, _⟩ := dg_sp h
  exact Nat.lt_of_not_le fun z => h2 (hz n z (by omega))
/-- what the machine's chain holds -/
def chI (V : mV) (ch : List (List Int × Nat)) : Prop := V.fI 6 8 = nI ch.length ∧ ∀ i, i < ch.length → V.rI 67 i = nI (ch.getD i ([], 0)).2 ∧ plI V (62 + i) (ch.getD i ([], 0)).1
theorem plI_av {V V1 : mV} {w : Nat → Prop} {a : Nat} {L : List Int} (h : plI V a L) (av : mAv w V V1) (ha : ¬ w a) : plI V1 a L := fun k hk => by
  rw [(av.1 a ha).2.2.2]
  exact h k hk
theorem mI_at' {V : mV} {a j i : Nat} {x v : Int32} (hx : x.toNatClampNeg = j) : (mI V a x v).rI a i = if i = j then v else V.rI a i := mI_at hx
/-- the rest is put behind -/
theorem T_addRest {F n : Nat} {V : mV} {a b L O : List Int} {ad bd : Nat} (hF : 1000 ≤ F) (hF2 : 2 ^ 21 ≤ F) (hn : n ≤ 2) (h6 : V.fI 6 8 = nI (n + 2)) (r0 : V.rI 67 n = nI ad) (r1 : V.rI 67 (n + 1) = nI bd) (pa : plI V (62 + n) a) (pb : plI V (62 + (n + 1)) b) (ga : god a ad) (gb : god b bd) (hd : bd ≤ ad) (hm : dvZ a b ad bd = some (L, O)) (hs : sm4 L = true) : mTo (mX8_addRest F V) (fun p => (dgZ L = 0 → p.1 = 0) ∧ (dgZ L ≠ 0 → p.1 = 1) ∧ p.2.fI 6 8 = nI (n + 2) ∧ (dgZ L ≠ 0 → p.2.rI 67 (n + 2) = nI (dgZ L - 1) ∧ plI p.2 (62 + (n + 2)) (ngZ L)) ∧ (∀ i, i < n + 2 → p.2.rI 67 i = V.rI 67 i) ∧ ∀ i, i < n + 2 → p.2.rJ (62 + i) = V.rJ (62 + i)) := by
  unfold mX8_addRest mX8_addRest_s
  have x1 : V.fI 6 8 - 1 = nI (n + 1) := by rw [h6]; exact nI_pred _
  have x2 : V.fI 6 8 - 2 = nI n := by
    rw [h6]
    have := nI_add n 2
    rw [← this]
    exact Int32.add_sub_cancel (nI n) (nI 2)
  rw [x1, x2, nI_clamp (n := n + 1) (by omega), nI_clamp (n := n) (by omega), r0, r1]
  have ml : ∀ i, i < 5 → mLen (62 + i) = 4 := fun i hi => by
    rcases (by omega : i = 0 ∨ i = 1 ∨ i = 2 ∨ i = 3 ∨ i = 4) with rfl | rfl | rfl | rfl | rfl <;> decide
  refine mTo.ic rfl (by omega) (by omega) (mTo.ic rfl (by omega) (by omega) (mTo.lt (mTo.ic rfl (by omega) (by omega) (mTo.ic rfl (by omega) (by omega) ?_))))
  obtain ⟨p, p1, q1, q2⟩ := T_divide (F := F) hF hF2 (ml n (by omega)) (ml (n + 1) (by omega)) ⟨by omega, by omega⟩ ga.1 pa pb gb.2.2.1 (gb.2.2.2.1 bd (by have := gb.2.1; omega)) hd ga.2.1 hm
  have fr := NX8_divide (v := p.1) (V1 := p.2) p1
  have nw : ∀ i, i < 68 → ¬ wX8_divide (62 + n) (62 + (n + 1)) i := fun i hi y => by unfold wX8_divide at y; omega
  refine mTo.W (Q := fun r => r = p) ⟨p, p1, rfl⟩ (fun v V1 _ r => ?_)
  have eV : V1 = p.2 := congrArg Prod.snd r
  rw [eV]
  have s62 := sm4_of hs
  refine mTo.so (T_degreeOf (L := L) (by omega) (by decide) q1 s62) ?_
  have p6 : p.2.fI 6 8 = nI (n + 2) := by rw [(fr.1 6 (nw _ (by omega))).1]; exact h6
  by_cases e : dgZ L = 0
  · rw [if_pos e]
    refine mTo.ite (fun y => absurd y (by decide)) (fun _ => mTo.ret ⟨fun _ => rfl, fun y => absurd e y, p6, fun y => absurd e y, fun i hi => ?_, fun i hi => ?_⟩)
    · show p.2.rI 67 i = _
      rw [(fr.1 67 (nw _ (by omega))).2.2.1]
    · show p.2.rJ (62 + i) = _
      rw [(fr.1 (62 + i) (nw _ (by omega))).2.2.2]
  · rw [if_neg e]
    have d4 : dgZ L - 1 ≤ 3 := (dg_sp (L := L) (n := dgZ L - 1) (by omega)).1
    refine mTo.ite (fun _ => ?_) (fun y => absurd ((nI_leI (a := 0) (b := dgZ L - 1) (by omega) (by omega)).mpr (Nat.zero_le _)) y)
    have go : ∀ k' j (V1 : mV), 4 < j + k' → j ≤ 4 → V1.fI 6 8 = nI (n + 2) → plI V1 68 L → (∀ k, k < j → V1.rJ (62 + (n + 2)) k = jO (-gZ L k)) → (∀ i, i < n + 2 → V1.rI 67 i = V.rI 67 i) → (∀ i, i < n + 2 → V1.rJ (62 + i) = V.rJ (62 + i)) → mTo (mX8_addRest_go F k' 0 (nI (dgZ L - 1)) (nI j) V1) (fun p => (dgZ L = 0 → p.1 = 0) ∧ (dgZ L ≠ 0 → p.1 = 1) ∧ p.2.fI 6 8 = nI (n + 2) ∧ (dgZ L ≠ 0 → p.2.rI 67 (n + 2) = nI (dgZ L - 1) ∧ plI p.2 (62 + (n + 2)) (ngZ L)) ∧ (∀ i, i < n + 2 → p.2.rI 67 i = V.rI 67 i) ∧ ∀ i, i < n + 2 → p.2.rJ (62 + i) = V.rJ (62 + i)) := by
      intro k'
      induction k' with
      | zero => intro j V1 h; omega
      | succ k ih =>
        intro j V1 c1 c2 c3 c4 c5 c6 c7
        rw [mX8_addRest_go, if_pos rfl]
        unfold mX8_addRest_b0
        rw [c3]
        refine mTo.le (a := 4) rfl rfl (by omega) (by omega) (fun z => mTo.ix rfl (by omega) (by omega) (mTo.lt (mTo.ret ⟨fun y => absurd y e, fun _ => rfl, c3, fun _ => ⟨?_, fun k hk => ?_⟩, fun i hi => ?_, c7⟩))) (fun z => mTo.ix rfl (by omega) (by omega) (mTo.ix rfl (by omega) (by omega) (mTo.ix rfl (by omega) (by omega) (mTo.lt (mTo.lt ?_)))))
        · show (mI V1 67 (nI (n + 2)) (nI (dgZ L - 1))).rI 67 (n + 2) = _
          rw [mI_at (nI_clamp (by omega)), if_pos rfl]
        · show V1.rJ (62 + (n + 2)) k = _
          rw [c5 k (by omega), ng_k hk]
        · show (mI V1 67 (nI (n + 2)) (nI (dgZ L - 1))).rI 67 i = _
          rw [mI_at (nI_clamp (by omega)), if_neg (by omega)]
          exact c6 i hi
        · rw [nI_1, nI_clamp (n := n + 2) (by omega), nI_clamp (n := j) (by omega), c4 j z, jO_neg]
          refine ih (j + 1) _ (by omega) (by omega) c3 (fun k hk => by rw [mJ_no (by omega)]; exact c4 k hk) (fun k hk => ?_) c6 (fun i hi => by rw [mJ_no (by omega)]; exact c7 i hi)
          rw [mJ_at (nI_clamp (by omega))]
          by_cases f : k = j
          · rw [if_pos f, f]
          · rw [if_neg f]
            exact c5 k (by omega)
    exact go F 0 p.2 (by omega) (by omega) p6 q1 (fun k hk => by omega) (fun i hi => by rw [(fr.1 67 (nw _ (by omega))).2.2.1]) (fun i hi => by rw [(fr.1 (62 + i) (nw _ (by omega))).2.2.2])
theorem getD_app {ch : List (List Int × Nat)} {x : List Int × Nat} {i : Nat} : (ch ++ [x]).getD i ([], 0) = if i < ch.length then ch.getD i ([], 0) else if i = ch.length then x else ([], 0) := by
  rw [List.getD_eq_getElem?_getD, List.getD_eq_getElem?_getD]
  by_cases h : i < ch.length
  · rw [if_pos h, List.getElem?_append_left h]
  · rw [if_neg h, List.getElem?_append_right (by omega)]
    by_cases e : i = ch.length
    · rw [if_pos e, e, Nat.sub_self]
      rfl
    · rw [if_neg e]
      obtain ⟨t, ht⟩ : ∃ t, i - ch.length = t + 1 := ⟨i - ch.length - 1, by omega⟩
      rw [ht]
      rfl
/-- the chain goes on -/
theorem T_cc {F : Nat} (hF : 2 ^ 22 ≤ F) : ∀ f k' (V : mV) (ch : List (List Int × Nat)) (a b : List Int) (ad bd : Nat) r, f < k' → ch.length + f = 3 → chI V (ch ++ [(a, ad)] ++ [(b, bd)]) → god a ad → god b bd → bd < ad → ccZ f a ad b bd = some r → mTo (mX8_continueChain_go F k' 1 0 V) (fun p => chI p.2 (ch ++ [(a, ad)] ++ [(b, bd)] ++ r)) ∧ ∀ c, c ∈ r → god c.1 c.2 ∧ c.2 < bd := by
  intro f
  induction f with
  | zero =>
    intro k' V ch a b ad bd r h1 h2 h3 ga gb hd hr
    obtain ⟨k, rfl⟩ : ∃ k, k' = k + 1 := ⟨k' - 1, by omega⟩
    rw [ccZ] at hr
    cases hr
    refine ⟨?_, fun c hc => absurd hc List.not_mem_nil⟩
    rw [List.append_nil, mX8_continueChain_go, if_neg (by decide), if_pos rfl]
    unfold mX8_continueChain_b1
    have l5 : (ch ++ [(a, ad)] ++ [(b, bd)]).length = 5 := by
      rw [List.length_append, List.length_append]
      show ch.length + 1 + 1 = 5
      omega
    have h6 := h3.1
    rw [l5] at h6
    rw [h6]
    exact mTo.le (a := 5) rfl rfl (by omega) (by omega) (fun _ => mTo.ret h3) (fun z => by omega)
  | succ f ih =>
    intro k' V ch a b ad bd r h1 h2 h3 ga gb hd hr
    obtain ⟨k, rfl⟩ : ∃ k, k' = k + 1 := ⟨k' - 1, by omega⟩
    obtain ⟨n, hn⟩ : ∃ n, n = ch.length := ⟨_, rfl⟩
    have l2 : (ch ++ [(a, ad)] ++ [(b, bd)]).length = n + 2 := by
      rw [List.length_append, List.length_append, hn]
      rfl
    have l1 : (ch ++ [(a, ad)]).length = n + 1 := by
      rw [List.length_append, hn]
      rfl
    have e0 : (ch ++ [(a, ad)] ++ [(b, bd)]).getD n ([], 0) = (a, ad) := by
      rw [getD_app, if_pos (by omega), getD_app, if_neg (by omega), if_pos hn]
    have e1 : (ch ++ [(a, ad)] ++ [(b, bd)]).getD (n + 1) ([], 0) = (b, bd) := by
      rw [getD_app, if_neg (by omega), if_pos (by omega)]
    obtain ⟨h6, hi⟩ := h3
    rw [l2] at h6 hi
    obtain ⟨r0, pa⟩ := hi n (by omega)
    obtain ⟨r1, pb⟩ := hi (n + 1) (by omega)
    rw [e0] at r0 pa
    rw [e1] at r1 pb
    have b3 := gb.2.1
    rw [mX8_continueChain_go, if_neg (by decide), if_pos rfl]
    unfold mX8_continueChain_b1
    have x1 : V.fI 6 8 - 1 = nI (n + 1) := by rw [h6]; exact nI_pred _
    rw [x1, nI_clamp (n := n + 1) (by omega), r1]
    rw [ccZ] at hr
    by_cases bz : bd = 0
    · rw [if_pos bz] at hr
      cases hr
      refine ⟨?_, fun c hc => absurd hc List.not_mem_nil⟩
      rw [List.append_nil]
      have h3 : chI V (ch ++ [(a, ad)] ++ [(b, bd)]) := ⟨by rw [l2]; exact h6, by rw [l2]; exact hi⟩
      refine mTo.le (a := 5) rfl h6 (by omega) (by omega) (fun _ => mTo.ret h3) (fun z => mTo.ic rfl (by omega) (by omega) (mTo.le (b := 0) rfl rfl (by omega) (by omega) (fun _ => mTo.ret h3) (fun z => by omega)))
    · rw [if_neg bz] at hr
      cases hm : dvZ a b ad bd with
      | none =>
        rw [hm] at hr
        cases hr
      | some LO =>
        obtain ⟨L, O⟩ := LO
        rw [hm] at hr
        have hr : (if sm4 L = true then (match dgZ L with
          | 0 => some []
          | nd + 1 => match ccZ f b bd (frZ (ngZ L)) nd with
            | none => none
            | some r => some ((frZ (ngZ L), nd) :: r)) else none) = some r := hr
        by_cases sm : sm4 L = true
        · rw [if_pos sm] at hr
          obtain ⟨p, p1, q1, q2, q3, q4, q5, q6⟩ := T_addRest (F := F) (by omega) (by omega) (show n ≤ 2 by omega) h6 r0 r1 pa pb ga gb (by omega) hm sm
          cases dg : dgZ L with
          | zero =>
            rw [dg] at hr
            have hr : some [] = some r := hr
            cases hr
            refine ⟨?_, fun c hc => absurd hc List.not_mem_nil⟩
            rw [List.append_nil]
            refine mTo.le (a := 5) rfl h6 (by omega) (by omega) (fun z => by omega) (fun z => mTo.ic rfl (by omega) (by omega) (mTo.le (b := 0) rfl rfl (by omega) (by omega) (fun z => by omega) (fun z => ?_)))
            refine mTo.W (Q := fun r => r = p) ⟨p, p1, rfl⟩ (fun v V1 _ x => ?_)
            have ev : v = p.1 := congrArg Prod.fst x
            have eV : V1 = p.2 := congrArg Prod.snd x
            rw [ev, eV, q1 dg, if_pos rfl]
            refine mTo.ret ⟨by rw [l2]; exact q3, fun i hi2 => ?_⟩
            rw [l2] at hi2
            show p.2.rI 67 i = _ ∧ plI p.2 (62 + i) _
            rw [q5 i hi2]
            refine ⟨(hi i hi2).1, fun k hk => ?_⟩
            rw [q6 i hi2]
            exact (hi i hi2).2 k hk
          | succ nd =>
            rw [dg] at hr
            have hr : (match ccZ f b bd (frZ (ngZ L)) nd with
              | none => none
              | some r => some ((frZ (ngZ L), nd) :: r)) = some r := hr
            cases hc : ccZ f b bd (frZ (ngZ L)) nd with
            | none =>
              rw [hc] at hr
              cases hr
            | some r' =>
              rw [hc] at hr
              have hr : some ((frZ (ngZ L), nd) :: r') = some r := hr
              cases hr
              have dne : dgZ L ≠ 0 := by omega
              obtain ⟨q7, q8⟩ := q4 dne
              obtain ⟨tl, tz⟩ := dv_top ga gb (by omega) hm
              have ndb := dg_lt dg tz
              have gn := god_ng dg sm
              have gf := god_fr gn
              have rc1 := fun V' h' => ih k V' (ch ++ [(a, ad)]) b (frZ (ngZ L)) bd nd r' (by omega) (by rw [l1]; omega) h' gb gf ndb hc
              have mlen : mLen (62 + (n + 2)) = 4 := by
                rcases (by omega : n = 0 ∨ n = 1 ∨ n = 2) with rfl | rfl | rfl <;> decide
              obtain ⟨p', p1', q9⟩ := T_makeFree (F := F) (by omega) mlen gn.1 q8 gn.2.2.2.1
              have fr := NX8_makeFree (v := p'.1) (V1 := p'.2) p1'
              have nw : ∀ i, i ≠ 62 + (n + 2) → ¬ wX8_makeFree (62 + (n + 2)) i := fun i hi y => hi y
              have hnew : chI (mF p'.2 6 8 (nI (n + 3))) (ch ++ [(a, ad)] ++ [(b, bd)] ++ [(frZ (ngZ L), nd)]) := by
                have l3 : (ch ++ [(a, ad)] ++ [(b, bd)] ++ [(frZ (ngZ L), nd)]).length = n + 3 := by
                  rw [List.length_append, l2]
                  rfl
                refine ⟨by rw [mF_at, l3], fun i hi3 => ?_⟩
                rw [l3] at hi3
                show p'.2.rI 67 i = _ ∧ plI p'.2 (62 + i) _
                rw [getD_app, l2]
                by_cases e : i = n + 2
                · subst e
                  rw [if_neg (by omega), if_pos rfl]
                  refine ⟨?_, q9⟩
                  rw [(fr.1 67 (nw _ (by omega))).2.2.1, q7, dg]
                  rfl
                · rw [if_pos (by omega), (fr.1 67 (nw _ (by omega))).2.2.1, q5 i (by omega)]
                  refine ⟨(hi i (by omega)).1, fun k hk => ?_⟩
                  rw [(fr.1 (62 + i) (nw _ (by omega))).2.2.2, q6 i (by omega)]
                  exact (hi i (by omega)).2 k hk
              obtain ⟨R1, R2⟩ := rc1 _ hnew
              refine ⟨?_, fun c hc => ?_⟩
              · refine mTo.le (a := 5) rfl h6 (by omega) (by omega) (fun z => by omega) (fun z => mTo.ic rfl (by omega) (by omega) (mTo.le (b := 0) rfl rfl (by omega) (by omega) (fun z => by omega) (fun z => ?_)))
                refine mTo.W (Q := fun r => r = p) ⟨p, p1, rfl⟩ (fun v V1 _ x => ?_)
                have ev : v = p.1 := congrArg Prod.fst x
                have eV : V1 = p.2 := congrArg Prod.snd x
                rw [ev, eV, q2 dne, if_neg (by decide), q3, nI_clamp (n := n + 2) (by omega)]
                refine mTo.ic rfl (by omega) (by omega) ?_
                refine mTo.W (Q := fun r => r = p') ⟨p', p1', rfl⟩ (fun v V1 _ x => mTo.lt ?_)
                have eV : V1 = p'.2 := congrArg Prod.snd x
                rw [eV, (fr.1 6 (nw _ (by omega))).1, q3, nI_1]
                rw [List.append_assoc, List.singleton_append] at R1
                exact R1
              · rcases List.mem_cons.mp hc with rfl | hc
                · exact ⟨gf, ndb⟩
                · obtain ⟨x1, x2⟩ := R2 c hc
                  exact ⟨x1, by omega⟩
        · rw [if_neg sm] at hr
          cases hr
theorem T_continueChain {F ad : Nat} {V : mV} {A : List Int} {ch : List (List Int × Nat)} (hF : 2 ^ 22 ≤ F) (r0 : V.rI 67 0 = nI ad) (pa : plI V 62 A) (ha3 : ad ≤ 3) (hg : ad ≠ 0 → god A ad ∧ ∀ k, k < 4 → (gZ A k).natAbs < 2 ^ 60) (hm : chZ A ad = some ch) : mTo (mX8_continueChain F V) (fun p => chI p.2 ch) ∧ (ad ≠ 0 → ∀ c, c ∈ ch → god c.1 c.2 ∧ c.2 ≤ ad) ∧ ch.head? = some (A, ad) := by
  unfold chZ at hm
  unfold mX8_continueChain mX8_continueChain_s
  by_cases az : ad = 0
  · rw [if_pos az] at hm
    cases hm
    refine ⟨?_, fun y => absurd az y, by rw [az]; rfl⟩
    refine mTo.lt (mTo.gd (by decide) (mTo.ite (fun _ => mTo.ret ⟨by rw [mF_at]; rfl, fun i hi => ?_⟩) (fun y => absurd ?_ y)))
    · have : i = 0 := by
        have : i < 1 := hi
        omega
      subst this
      refine ⟨?_, pa⟩
      show V.rI 67 0 = _
      rw [r0, az]
      rfl
    · show V.rI 67 0 = 0
      rw [r0, az]
      rfl
  · obtain ⟨ga, hb⟩ := hg az
    rw [if_neg az] at hm
    obtain ⟨d, rfl⟩ : ∃ d, ad = d + 1 := ⟨ad - 1, by omega⟩
    rw [Nat.add_sub_cancel] at hm
    cases hc : ccZ 3 A (d + 1) (drZ A) d with
    | none =>
      rw [hc] at hm
      cases hm
    | some r =>
      rw [hc] at hm
      have hm : some ((A, d + 1) :: (drZ A, d) :: r) = some ch := hm
      cases hm
      have gd := god_dr ga hb
      have gf : god (drZ A) d := god_fr gd
      -- the machine
      have l63 : mLen 63 = 4 := by decide
      obtain ⟨p, p1, q⟩ := T_fillJ (F := F) (a := 63) (N := 4) (x := 0) (V := mF V 6 8 1) (by omega) l63 (by omega)
      have fr := NJ7_fill_d0a16 (v := p.1) (V1 := p.2) p1
      have nw : ∀ x, x ≠ 63 → ¬ wJ7_fill_d0a16 63 x := fun x hx y => hx y
      have fin : ∀ V1 : mV, plI V1 63 [gZ A 1, 2 * gZ A 2, 3 * gZ A 3, 0] → plI V1 62 A → V1.rI 67 0 = nI (d + 1) → ∀ k, 4 ≤ k → mTo (mX8_continueChain_go F (k + 1) 0 (nI 4) V1) (fun p => chI p.2 ((A, d + 1) :: (drZ A, d) :: r)) ∧ ∀ c, c ∈ r → god c.1 c.2 ∧ c.2 < d := by
        intro V1 h1 h2 h3 k hk
        rw [mX8_continueChain_go, if_pos rfl]
        unfold mX8_continueChain_b0
        obtain ⟨p', p1', q9⟩ := T_makeFree (F := F) (by omega) l63 gd.1 h1 gd.2.2.2.1
        have fr' := NX8_makeFree (v := p'.1) (V1 := p'.2) p1'
        have nw' : ∀ i, i ≠ 63 → ¬ wX8_makeFree 63 i := fun i hi y => hi y
        have r67 : p'.2.rI 67 0 = nI (d + 1) := by rw [(fr'.1 67 (nw' _ (by decide))).2.2.1]; exact h3
        have hnew : chI (mF (mI p'.2 67 1 (nI d)) 6 8 2) ([] ++ [(A, d + 1)] ++ [(drZ A, d)]) := by
          refine ⟨by rw [mF_at]; rfl, fun i hi => ?_⟩
          have hi : i < 2 := hi
          show (mI p'.2 67 1 (nI d)).rI 67 i = _ ∧ plI p'.2 (62 + i) _
          rw [mI_at (show (1 : Int32).toNatClampNeg = 1 from rfl)]
          rcases (by omega : i = 0 ∨ i = 1) with rfl | rfl
          · rw [if_neg (by decide), r67]
            exact ⟨rfl, plI_av h2 fr' (nw' _ (by decide))⟩
          · rw [if_pos rfl]
            exact ⟨rfl, q9⟩
        obtain ⟨R1, R2⟩ := T_cc hF 3 k _ [] A (drZ A) (d + 1) d r (by omega) rfl hnew ga gf (by omega) hc
        refine ⟨?_, R2⟩
        rw [if_pos (show (4 : Int32) ≤ nI 4 from (nI_leI (a := 4) (b := 4) (by omega) (by omega)).mpr (by omega))]
        refine mTo.gd (by decide) ?_
        refine mTo.W (Q := fun r => r = p') ⟨p', p1', rfl⟩ (fun v V2 _ x => mTo.gd (by decide) (mTo.gd (by decide) (mTo.lt (mTo.lt ?_))))
        have eV : V2 = p'.2 := congrArg Prod.snd x
        rw [eV, show p'.2.rI 67 ((0 : Int32).toNatClampNeg) = nI (d + 1) from r67, nI_pred]
        exact R1
      have go : ∀ k' j (V1 : mV), 10 < j + k' → 1 ≤ j → j ≤ 4 → V1.rI 67 0 = nI (d + 1) → plI V1 62 A → (∀ k, k < 4 → V1.rJ 63 k = jO (if k + 1 < j then ((k + 1 : Nat) : Int) * gZ A (k + 1) else 0)) → mTo (mX8_continueChain_go F k' 0 (nI j) V1) (fun p => chI p.2 ((A, d + 1) :: (drZ A, d) :: r)) ∧ ∀ c, c ∈ r → god c.1 c.2 ∧ c.2 < d := by
        intro k'
        induction k' with
        | zero => intro j V1 h; omega
        | succ k ih =>
          intro j V1 c1 c2 c3 c4 c5 c6
          by_cases j4 : j = 4
          · subst j4
            refine fin V1 (fun k hk => ?_) c5 c4 k (by omega)
            rw [c6 k hk]
            rcases (by omega : k = 0 ∨ k = 1 ∨ k = 2 ∨ k = 3) with rfl | rfl | rfl | rfl
            · rw [if_pos (by decide)]
              show jO (1 * gZ A 1) = jO (gZ A 1)
              rw [Int.one_mul]
            · rw [if_pos (by decide)]
              rfl
            · rw [if_pos (by decide)]
              rfl
            · rw [if_neg (by decide)]
              rfl
          · obtain ⟨i, rfl⟩ : ∃ i, j = i + 1 := ⟨j - 1, by omega⟩
            have R := ih (i + 1 + 1) (mJ V1 63 (nI i) (jO (((i + 1 : Nat) : Int) * gZ A (i + 1)))) (by omega) (by omega) (by omega) c4 (fun k hk => by rw [mJ_no (by decide)]; exact c5 k hk) (fun k hk => by
              rw [mJ_at (nI_clamp (by omega))]
              by_cases e : k = i
              · rw [if_pos e, if_pos (by omega), e]
              · rw [if_neg e, c6 k hk]
                by_cases f : k + 1 < i + 1
                · rw [if_pos f, if_pos (by omega)]
                · rw [if_neg f, if_neg (by omega)])
            refine ⟨?_, R.2⟩
            rw [mX8_continueChain_go, if_pos rfl]
            unfold mX8_continueChain_b0
            rw [nI_pred]
            refine mTo.le (a := 4) rfl rfl (by omega) (by omega) (fun z => by omega) (fun z => mTo.gd (by decide) (mTo.gd (by decide) (mTo.ix rfl (by omega) (by omega) (mTo.ix rfl (by omega) (by omega) (mTo.lt (mTo.lt ?_))))))
            rw [nI_clamp (n := i + 1) (by omega), show V1.rJ (62 + (0 : Int32).toNatClampNeg) (i + 1) = jO (gZ A (i + 1)) from c5 (i + 1) (by omega), jO_32, nI_toInt (by omega), jO_mul, nI_1]
            exact R.1
      obtain ⟨R1, R2⟩ := go F 1 p.2 (by omega) (by omega) (by omega) (by rw [(fr.1 67 (nw _ (by decide))).2.2.1]; exact r0) (fun k hk => by rw [(fr.1 62 (nw _ (by decide))).2.2.2]; exact pa k hk) (fun k hk => by rw [q k, if_pos hk, if_neg (by omega)]; rfl)
      refine ⟨?_, fun _ c hc => ?_, rfl⟩
      · refine mTo.lt (mTo.gd (by decide) (mTo.ite (fun y => absurd ?_ (show ¬ d + 1 = 0 by omega)) (fun _ => mTo.gd (by decide) ?_)))
        · have y : V.rI 67 0 = 0 := y
          rw [r0] at y
          exact (nI_eq (by omega) (by omega)).mp y
        · refine mTo.W (Q := fun r => r = p) ⟨p, p1, rfl⟩ (fun v V1 _ x => ?_)
          have eV : V1 = p.2 := congrArg Prod.snd x
          rw [eV]
          exact R1
      · rcases List.mem_cons.mp hc with rfl | hc
        · exact ⟨ga, Nat.le_refl _⟩
        · rcases List.mem_cons.mp hc with rfl | hc
          · exact ⟨gf, by show d ≤ d + 1; omega⟩
          · obtain ⟨x1, x2⟩ := R2 c hc
            exact ⟨x1, by omega⟩
end
