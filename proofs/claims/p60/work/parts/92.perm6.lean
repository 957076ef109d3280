/-! THE PURE PART, permutations: the rows' judge; weak duality. -/
section
/-- the items lead the code's row into the row -/
def ledC (P : Nat → Nat → Nat) (s lu k : Nat) (xs : List Int32) (x : Int32) : Prop := ∀ p c, isQ s k p → x = nI (cdN p k) → 1 ≤ c → c < lu → inT xs (nI (cdN (fun j => P c (p j)) k))
theorem T_isLed {F r s lu many i : Nat} {Ln : Nat → Nat} {P : Nat → Nat → Nat} {G p : Nat → Nat} {xs : List Int32} {V : mV} (hF : 2 ^ 10 ≤ F) (hr : 256 ≤ r) (hs : s ≤ 6) (hm : many ≤ s) (hlu : lu ≤ 5) (hP : ∀ c, c < lu → isP s (P c)) (hM : pmS V s lu P G) (hR : rowIs Ln V r xs) (h0 : xs.length ≠ 0) (hri : ∀ i, 1 ≤ i → i + 1 < xs.length → xs.getD i 0 < xs.getD (i + 1) 0) (hi : i < 2 ^ 20) (hp : isQ s many p) (hx : xs.getD i 0 = nI (cdN p many)) : mTo (mX10_isLedWithin F Ln r (nI i) (nI many) V) (fun q => ((q.1 = 0 ∨ q.1 = 1) ∧ (q.1 ≠ 0 ↔ ledC P s lu many xs (xs.getD i 0))) ∧ mAv (wX10_isLedWithin r) V q.2) := by
  have main : mTo (mX10_isLedWithin F Ln r (nI i) (nI many) V) (fun q => (q.1 = 0 ∨ q.1 = 1) ∧ (q.1 ≠ 0 ↔ ledC P s lu many xs (xs.getD i 0))) := by
    unfold mX10_isLedWithin mX10_isLedWithin_s
    refine mTo.so (T_rAt hR (by omega)) (mTo.W (T_readCode (F := F) (by omega) (by omega)) (fun y V1 _ q => ?_))
    obtain ⟨⟨g, g1, g2, g3⟩, q2⟩ := q
    have q2 : mAv wX10_readCode V V1 := q2
    have g3 : (xs.getD i 0).toInt = exN g y.toInt 0 many := g3
    have g2 : rowP V1 77 many g := g2
    have eq := (code_of (s := s) hs (by omega) g1 g3).2
    have egp := eq p hp hx
    have hR := hR.mv q2 (by unfold wX10_readCode; omega) (by unfold wX10_readCode; omega)
    have hM : pmS V1 s lu P G := ⟨by rw [(q2.1 7 (by unfold wX10_readCode; omega)).1]; exact hM.1, by rw [(q2.1 7 (by unfold wX10_readCode; omega)).1]; exact hM.2.1, fun t ht y hy => by rw [(q2.1 (71 + t) (by unfold wX10_readCode; omega)).2.2.1]; exact hM.2.2.1 t ht y hy, fun y hy => by rw [(q2.1 76 (by unfold wX10_readCode; omega)).2.2.1]; exact hM.2.2.2 y hy⟩
    have gs : ∀ j, j < many → g j < s := fun j hj => by rw [egp j hj]; exact hp.1 j hj
    have go : ∀ k', (∀ c (V : mV), (lu - c) * 20 + 1 ≤ k' → 1 ≤ c → c ≤ 10 → pmS V s lu P G → rowIs Ln V r xs → rowP V 77 many g → (∀ d, 1 ≤ d → d < c → d < lu → inT xs (nI (cdN (fun j => P d (p j)) many))) → mTo (mX10_isLedWithin_go F k' 0 Ln r (nI many) (nI c) 0 V) (fun q => (q.1 = 0 ∨ q.1 = 1) ∧ (q.1 ≠ 0 ↔ ledC P s lu many xs (xs.getD i 0)))) ∧ (∀ c j (V : mV), (lu - c - 1) * 20 + (many - j) + 3 ≤ k' → 1 ≤ c → c < lu → j ≤ many → pmS V s lu P G → rowIs Ln V r xs → rowP V 77 many g → rowP V 78 j (fun x => P c (g x)) → (∀ d, 1 ≤ d → d < c → d < lu → inT xs (nI (cdN (fun j => P d (p j)) many))) → mTo (mX10_isLedWithin_go F k' 1 Ln r (nI many) (nI c) (nI j) V) (fun q => (q.1 = 0 ∨ q.1 = 1) ∧ (q.1 ≠ 0 ↔ ledC P s lu many xs (xs.getD i 0)))) := by
      intro k'
      induction k' with
      | zero => exact ⟨fun c V h => by omega, fun c j V h => by omega⟩
      | succ k ih =>
        obtain ⟨ih0, ih1⟩ := ih
        refine ⟨fun c V h1 h2 h3 hM hR hG hh => ?_, fun c j V h1 h2 h3 hj hM hR hG hQ hh => ?_⟩
        · rw [mX10_isLedWithin_go, if_pos rfl]
          unfold mX10_isLedWithin_b0
          rw [hM.2.1]
          refine mTo.ite (fun z => mTo.ret ⟨Or.inr rfl, fun _ q d hq hxq d1 d2 => ?_, fun _ => (by decide : (1 : Int32) ≠ 0)⟩) (fun z => ?_)
          · have z := (nI_hi (by omega) (by omega)).mp z
            have e2 := eq q hq hxq
            have : cdN (fun j => P d (q j)) many = cdN (fun j => P d (p j)) many := cdN_cg many (fun j hj => by rw [← e2 j hj, egp j hj])
            rw [this]
            exact hh d d1 (by omega) d2
          · have z : c < lu := Nat.lt_of_not_le fun y => z ((nI_hi (by omega) (by omega)).mpr y)
            exact ih1 c 0 V (by omega) h2 z (Nat.zero_le _) hM hR hG (fun x hx => absurd hx (Nat.not_lt_zero _)) hh
        · rw [mX10_isLedWithin_go, if_neg (by decide), if_pos rfl]
          unfold mX10_isLedWithin_b1
          have ec : cdN (fun x => P c (g x)) many = cdN (fun x => P c (p x)) many := cdN_cg many (fun j hj => by rw [egp j hj])
          refine mTo.le rfl rfl (by omega) (by omega) (fun z => ?_) (fun z => ?_)
          · have : j = many := by omega
            subst this
            refine mTo.so (T_codeOf6 (F := F) (a := 78) (p := fun x => P c (g x)) (by omega) rfl (Nat.le_refl _) (by omega) hQ) ?_
            rw [ec]
            refine mTo.N (T_holds1 (F := F) (by omega) hR h0 hri) (fun w _ q => mTo.tf q (fun w0 => mTo.ret ⟨Or.inl rfl, fun w => absurd rfl w, fun w => absurd (w p c hp hx h2 h3) w0⟩) (fun w1 => mTo.lt ?_))
            rw [nI_1]
            refine ih0 (c + 1) V (by omega) (by omega) (by omega) hM hR hG (fun d d1 d2 d3 => ?_)
            by_cases w : d = c
            · rw [w]
              exact w1
            · exact hh d d1 (by omega) d3
          · have cj : (nI j).toNatClampNeg = j := nI_clamp (by omega)
            have gj := gs j z
            refine mTo.ix rfl (by omega) (by omega) (mTo.ix rfl (by omega) (by omega) ?_)
            rw [show V.rI 77 (nI j).toNatClampNeg = nI (g j) by rw [cj]; exact hG j z]
            refine mTo.ix rfl (by omega) (by omega) (mTo.ix rfl (by omega) (by omega) (mTo.lt (mTo.lt ?_)))
            rw [nI_1, show V.rI (71 + (nI c).toNatClampNeg) (nI (g j)).toNatClampNeg = nI (P c (g j)) by rw [nI_clamp (by omega), nI_clamp (by omega)]; exact hM.2.2.1 c h3 _ gj]
            refine ih1 c (j + 1) _ (by omega) h2 h3 (by omega) ⟨hM.1, hM.2.1, fun t ht y hy => by rw [mI_no (by omega)]; exact hM.2.2.1 t ht y hy, fun y hy => by rw [mI_no (by omega)]; exact hM.2.2.2 y hy⟩ ⟨hR.1, hR.2.1, hR.2.2.1, fun t ht => by rw [mI_no (by omega)]; exact hR.2.2.2 t ht⟩ (fun y hy => by rw [mI_no (by omega)]; exact hG y hy) (fun y hy => ?_) hh
            rw [mI_at cj]
            by_cases w : y = j
            · rw [if_pos w, w]
            · rw [if_neg w]
              exact hQ y (by omega)
    exact (go F).1 1 V1 (by omega) (Nat.le_refl _) (by omega) hM hR g2 (fun d h1 h2 => by omega)
  obtain ⟨p, e1, q⟩ := main
  exact ⟨p, e1, q, NX10_isLedWithin (v := p.1) e1⟩
def rowsOK (P : Nat → Nat → Nat) (G : Nat → Nat) (s lu : Nat) (xs : List Int32) : Prop := xs.length ≠ 0 ∧ ∃ k, 1 ≤ k ∧ k ≤ s ∧ xs.getD 0 0 = nI k ∧ (∀ i, 1 ≤ i → i + 1 < xs.length → xs.getD i 0 < xs.getD (i + 1) 0) ∧ (∀ i, 1 ≤ i → i < xs.length → isC s k (xs.getD i 0)) ∧ inT xs (nI (cdN (fun x => x) k)) ∧ (∀ i, 1 ≤ i → i < xs.length → ledC P s lu k xs (xs.getD i 0)) ∧ ¬ inT xs (nI (cdN G k))
theorem T_judgeRows {F e r s m b : Nat} {Ln : Nat → Nat} {P : Nat → Nat → Nat} {d : Nat → Int32} {xs : List Int32} {V : mV} (hF : 2 ^ 17 ≤ F) (he : 256 ≤ e) (hr : 256 ≤ r) (hs : s ≤ 6) (hm : m ≤ 5) (hb : b < 2 ^ 20) (hd : qG d m s P) (hq : enQ V e s m (nI b) d) (hR : rowIs Ln V r xs) : mTo (mX10_judgeRows F Ln e r V) (fun p => p.1 = 0 ↔ rowsOK P (goalP m P) s (luN m b) xs) := by
  have lm : luN m b ≤ m := by
    unfold luN
    by_cases z : m < b + 1
    · rw [if_pos z]
      omega
    · rw [if_neg z]
      omega
  have n := hR.n
  have no : ∀ {P : Prop}, (1 : Int32) = 0 → P := fun z => absurd z (by decide)
  unfold mX10_judgeRows mX10_judgeRows_s
  refine mTo.W (T_loadItems (F := F) (by omega) he hs hm hb hd hq) (fun a V0 _ qf => ?_)
  obtain ⟨hM, ha⟩ := qf
  have hM : pmS V0 s (luN m b) P (goalP m P) := hM
  have ha : mAv (wX10_loadItems e) V V0 := ha
  have hR := hR.mv ha (by unfold wX10_loadItems; omega) (by unfold wX10_loadItems; omega)
  generalize hlu : luN m b = lu at *
  generalize hG : goalP m P = G at *
  have hP : ∀ c, c < lu → isP s (P c) := fun c h => (hd c (by omega)).2.1
  refine mTo.so (T_rAt (j := 0) hR (by omega)) (mTo.eqI (b := 0) hR.1 rfl (by omega) (by omega) (fun z => mTo.ret ⟨fun y => no y, fun y => absurd z y.1⟩) (fun h0 => mTo.ite (fun z => mTo.ret ⟨fun y => no y, fun y => ?_⟩) (fun z1 => ?_)))
  · obtain ⟨_, k, k1, k2, k3, _⟩ := y
    rw [k3] at z
    have := (nI_ltI (a := k) (b := 1) (by omega) (by omega)).mp z
    omega
  have pos : ¬ xs.getD 0 0 < 0 := fun z => z1 (i32lt.mpr (by have := i32lt.mp z; have e0 : (0 : Int32).toInt = 0 := rfl; have e1 : (1 : Int32).toInt = 1 := rfl; omega))
  obtain ⟨k, k31, hk⟩ := nI_of pos
  have k1 : 1 ≤ k := Nat.le_of_not_lt fun y => z1 (by rw [hk]; exact (nI_ltI (a := k) (b := 1) k31 (by omega)).mpr y)
  have kk : ∀ k', 1 ≤ k' → k' ≤ s → xs.getD 0 0 = nI k' → k' = k := fun k' _ h2 h3 => ((nI_eq (by omega) k31).mp (h3.symm.trans hk))
  rw [hk]
  refine mTo.ltI hM.1 rfl (by omega) k31 (fun z => mTo.ret ⟨fun y => no y, fun y => ?_⟩) (fun k2 => ?_)
  · obtain ⟨_, k', q1, q2, q3, _⟩ := y
    have := kk k' q1 q2 q3
    omega
  refine mTo.N (T_rRising (j := 1) (by omega) hR (by omega)) (fun v _ q => mTo.tf q (fun hc => mTo.ret ⟨fun y => no y, fun y => absurd (by obtain ⟨_, k', _, _, _, q4, _⟩ := y; exact q4) hc⟩) (fun hri => ?_))
  refine mTo.W (T_areRows (by omega) hr hs k1 k2 hM.1 hR) (fun v V1 _ q => ?_)
  obtain ⟨q1, q2⟩ := q
  have q2 : mAv (wX10_areRowsOf r) V0 V1 := q2
  have q1 : (v = 0 ∨ v = 1) ∧ (v ≠ 0 ↔ ∀ i, 1 ≤ i → i < xs.length → isC s k (xs.getD i 0)) := q1
  have hR := hR.mv q2 (by unfold wX10_areRowsOf; omega) (by unfold wX10_areRowsOf; omega)
  have hM : pmS V1 s lu P G := ⟨by rw [(q2.1 7 (by unfold wX10_areRowsOf; omega)).1]; exact hM.1, by rw [(q2.1 7 (by unfold wX10_areRowsOf; omega)).1]; exact hM.2.1, fun t ht y hy => by rw [(q2.1 (71 + t) (by unfold wX10_areRowsOf; omega)).2.2.1]; exact hM.2.2.1 t ht y hy, fun y hy => by rw [(q2.1 76 (by unfold wX10_areRowsOf; omega)).2.2.1]; exact hM.2.2.2 y hy⟩
  refine mTo.tf q1 (fun hc => mTo.ret ⟨fun y => no y, fun y => ?_⟩) (fun hC => ?_)
  · obtain ⟨_, k', r1, r2, r3, _, r5, _⟩ := y
    rw [kk k' r1 r2 r3] at r5
    exact absurd r5 hc
  have go1 : inT xs (nI (cdN (fun x => x) k)) → ∀ k' i (V : mV), xs.length < i + k' → 1 ≤ i → i ≤ xs.length → pmS V s lu P G → rowIs Ln V r xs → (∀ t, 1 ≤ t → t < i → ledC P s lu k xs (xs.getD t 0)) → mTo (mX10_judgeRows_go F k' 1 Ln r (nI k) (nI i) V) (fun p => p.1 = 0 ↔ rowsOK P G s lu xs) := by
    intro hI k'
    induction k' with
    | zero => intro i V h1 h2 h3; omega
    | succ k' ih =>
      intro i V h1 h2 h3 hM hR hh
      rw [mX10_judgeRows_go, if_neg (by decide), if_pos rfl]
      unfold mX10_judgeRows_b1
      refine mTo.le hR.1 rfl (by omega) (by omega) (fun z => mTo.so (T_codeOf6 (F := F) (a := 76) (p := G) (by omega) rfl k2 hs hM.2.2.2) (mTo.N (T_holds1 (F := F) (by omega) hR h0 hri) (fun w _ q => mTo.tf q (fun w0 => mTo.ret ⟨fun _ => ⟨h0, k, k1, k2, hk, hri, hC, hI, fun t t1 t2 => hh t t1 (by omega), w0⟩, fun _ => rfl⟩) (fun w1 => mTo.ret ⟨fun y => absurd (show (4 : Int32) = 0 from y) (by decide), fun y => ?_⟩)))) (fun z => ?_)
      · obtain ⟨_, k', r1, r2, r3, _, _, _, _, r8⟩ := y
        rw [kk k' r1 r2 r3] at r8
        exact absurd w1 r8
      · obtain ⟨p, hp, hx⟩ := hC i h2 z
        refine mTo.W (T_isLed (F := F) (i := i) (by omega) hr hs k2 (by omega) hP hM hR h0 hri (by omega) hp hx) (fun v V2 _ q => ?_)
        obtain ⟨g1, g2⟩ := q
        have g1 : (v = 0 ∨ v = 1) ∧ (v ≠ 0 ↔ ledC P s lu k xs (xs.getD i 0)) := g1
        have g2 : mAv (wX10_isLedWithin r) V V2 := g2
        refine mTo.tf g1 (fun hc => mTo.ret ⟨fun y => absurd (show (3 : Int32) = 0 from y) (by decide), fun y => ?_⟩) (fun hc => mTo.lt ?_)
        · obtain ⟨_, k', r1, r2, r3, _, _, _, r7, _⟩ := y
          rw [kk k' r1 r2 r3] at r7
          exact absurd (r7 i h2 z) hc
        · rw [nI_1]
          refine ih (i + 1) V2 (by omega) (by omega) (by omega) ⟨by rw [(g2.1 7 (by unfold wX10_isLedWithin; omega)).1]; exact hM.1, by rw [(g2.1 7 (by unfold wX10_isLedWithin; omega)).1]; exact hM.2.1, fun t ht y hy => by rw [(g2.1 (71 + t) (by unfold wX10_isLedWithin; omega)).2.2.1]; exact hM.2.2.1 t ht y hy, fun y hy => by rw [(g2.1 76 (by unfold wX10_isLedWithin; omega)).2.2.1]; exact hM.2.2.2 y hy⟩ (hR.mv g2 (by unfold wX10_isLedWithin; omega) (by unfold wX10_isLedWithin; omega)) (fun t t1 t2 => ?_)
          by_cases w : t = i
          · rw [w]
            exact hc
          · exact hh t t1 (by omega)
  have go0 : ∀ k' j (V : mV), s + 1030 < j + k' → j ≤ s → pmS V s lu P G → rowIs Ln V r xs → (∀ x, x < j → V.rI 77 x = nI x) → mTo (mX10_judgeRows_go F k' 0 Ln r (nI k) (nI j) V) (fun p => p.1 = 0 ↔ rowsOK P G s lu xs) := by
    intro k'
    induction k' with
    | zero => intro j V h1 h2; omega
    | succ k' ih =>
      intro j V h1 h2 hM hR hh
      rw [mX10_judgeRows_go, if_pos rfl]
      unfold mX10_judgeRows_b0
      refine mTo.le hM.1 rfl (by omega) (by omega) (fun z => mTo.so (T_codeOf6 (F := F) (a := 77) (s := s) (p := fun x => x) (by omega) rfl k2 hs (fun x hx => hh x (by omega))) (mTo.N (T_holds1 (F := F) (by omega) hR h0 hri) (fun w _ q => mTo.tf q (fun w0 => mTo.ret ⟨fun y => absurd (show (2 : Int32) = 0 from y) (by decide), fun y => ?_⟩) (fun w1 => go1 w1 k' 1 V (by omega) (Nat.le_refl _) (by omega) hM hR (fun t h1 h2 => by omega))))) (fun z => ?_)
      · obtain ⟨_, k', r1, r2, r3, _, _, r6, _⟩ := y
        rw [kk k' r1 r2 r3] at r6
        exact absurd r6 w0
      · have cj : (nI j).toNatClampNeg = j := nI_clamp (by omega)
        refine mTo.ix rfl (by omega) (by omega) (mTo.lt (mTo.lt ?_))
        rw [nI_1]
        refine ih (j + 1) _ (by omega) (by omega) ⟨hM.1, hM.2.1, fun t ht y hy => by rw [mI_no (by omega)]; exact hM.2.2.1 t ht y hy, fun y hy => by rw [mI_no (by omega)]; exact hM.2.2.2 y hy⟩ ⟨hR.1, hR.2.1, hR.2.2.1, fun t ht => by rw [mI_no (by omega)]; exact hR.2.2.2 t ht⟩ (fun x hx => ?_)
        rw [mI_at cj]
        by_cases w : x = j
        · rw [if_pos w, w]
        · rw [if_neg w]
          exact hh x (by omega)
  exact go0 F 0 V1 (by omega) (Nat.zero_le _) hM hR (fun x hx => absurd hx (Nat.not_lt_zero _))
/-- WEAK DUALITY: no word and no rows together -/
theorem word_rows {P : Nat → Nat → Nat} {G : Nat → Nat} {s lu : Nat} {xs ys : List Int32} (hs : s ≤ 6) (hlu : lu ≤ 5) (hP : ∀ c, c < lu → isP s (P c)) (h1 : wordOK P G s lu xs) (h2 : rowsOK P G s lu ys) : False := by
  obtain ⟨hw, hg⟩ := h1
  obtain ⟨_, k, k1, k2, _, _, hC, hI, hL, hN⟩ := h2
  have pA := apN_P hlu hP hw
  have st : ∀ i, i ≤ xs.length → inT ys (nI (cdN (apN P xs i) k)) := by
    intro i
    induction i with
    | zero => exact fun _ => hI
    | succ i ih =>
      intro hi
      obtain ⟨j, j1, j2, j3⟩ := ih (by omega)
      obtain ⟨c, c1, c2, c3⟩ := hw i (by omega)
      have a := pA i (by omega)
      have := hL j j1 j2 (apN P xs i) c ⟨fun x hx => a.1 x (by omega), fun x y hxy hy => a.2 x y hxy (by omega)⟩ j3 c1 c2
      have e : apN P xs (i + 1) = fun x => P c (apN P xs i x) := funext fun x => by rw [apN, pX_eq c3 (by omega)]
      rw [e]
      exact this
  refine hN ?_
  rw [← cdN_cg k (fun j hj => hg j (by omega))]
  exact st _ (Nat.le_refl _)
end
