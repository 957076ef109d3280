/-! THE PURE PART, machines: what is loaded, what the judges accept. -/
section
theorem T_loadStates_go {F e s m : Nat} {b : Int32} {d : Nat → Int32} {Z O Fi : Nat → Nat} (he : 256 ≤ e) (hs : s ≤ 8) (hm : m ≤ 8) (hd : qA d m s Z O Fi) : ∀ k' j (V : mV), (s - j) * 2 + 1 ≤ k' → j ≤ s → enQ V e s m b d → V.fI 8 7 = nI s → (∀ i, i < j → V.rI 84 i = nI (Z i) ∧ V.rI 85 i = nI (O i) ∧ V.rI 86 i = nI (Fi i)) → mTo (mX6_loadStates_go F k' 0 e (nI j) 0 0 0 0 V) (fun p => mcS p.2 s Z O Fi) := by
  intro k'
  induction k' using Nat.strongRecOn with
  | ind k' ih =>
    intro j V h1 h2 hq h7 hi
    obtain ⟨x, rfl⟩ : ∃ x, k' = x + 1 := ⟨k' - 1, by omega⟩
    rw [mX6_loadStates_go, if_pos rfl]
    unfold mX6_loadStates_b0
    refine mTo.le h7 rfl (by omega) (by omega) (fun h => mTo.ret ?_) (fun h => ?_)
    · have : j = s := by omega
      subst this
      exact ⟨h7, hi⟩
    · obtain ⟨y, rfl⟩ : ∃ y, x = y + 1 := ⟨x - 1, by omega⟩
      have cl : (nI j).toNatClampNeg = j := nI_clamp (by omega)
      obtain ⟨d1, d2, d3, d4, d5⟩ := hd j h
      have fin : ∀ V2 : mV, V2.fI = V.fI → V2.rI (e + 1) = V.rI (e + 1) → (∀ i, V2.rI 84 i = if i = j then nI (Z j) else V.rI 84 i) → (∀ i, V2.rI 85 i = if i = j then nI (O j) else V.rI 85 i) → (∀ i, V2.rI 86 i = if i = j then nI (Fi j) else V.rI 86 i) → mTo (mX6_loadStates_go F y 0 e (nI (j + 1)) 0 0 0 0 V2) (fun p => mcS p.2 s Z O Fi) := fun V2 a1 a2 a3 a4 a5 => by
        refine ih y (by omega) (j + 1) V2 (by omega) (by omega) ⟨by rw [a1]; exact hq.1, by rw [a1]; exact hq.2.1, by rw [a1]; exact hq.2.2.1, by rw [a2]; exact hq.2.2.2⟩ (by rw [a1]; exact h7) (fun i hij => ?_)
        rw [a3, a4, a5]
        by_cases z : i = j
        · subst z
          rw [if_pos rfl, if_pos rfl, if_pos rfl]
          exact ⟨rfl, rfl, rfl⟩
        · rw [if_neg z, if_neg z, if_neg z]
          exact hi i (by omega)
      have n1 : ∀ {V : mV} {x v : Int32}, (mI V 84 x v).rI (e + 1) = V.rI (e + 1) := mI_no (by omega)
      have n2 : ∀ {V : mV} {x v : Int32}, (mI V 85 x v).rI (e + 1) = V.rI (e + 1) := mI_no (by omega)
      have n3 : ∀ {V : mV} {x v : Int32}, (mI V 86 x v).rI (e + 1) = V.rI (e + 1) := mI_no (by omega)
      refine mTo.le hq.2.1 rfl (by omega) (by omega) (fun g => ?_) (fun g => mTo.so (T_item (k := 0) hq.2.1 (by omega) g (by omega) rfl ((hq.2.2.2 _ (by omega)).trans (d1 g).1)) ?_)
      · obtain ⟨c1, c2, c3⟩ := d2 g
        rw [mX6_loadStates_go, if_neg (by decide), if_pos rfl]
        unfold mX6_loadStates_b1
        refine mTo.ix (N := mLen 84) rfl (show j < 8 by omega) (show 8 < 2 ^ 31 by decide) (mTo.lt ?_)
        rw [if_pos rfl]
        refine mTo.ix rfl (by omega) (by omega) (mTo.lt ?_)
        rw [if_pos rfl]
        refine mTo.ix rfl (by omega) (by omega) (mTo.lt (mTo.lt ?_))
        rw [nI_1]
        refine fin _ rfl (by rw [n3, n2, n1]) (fun i => ?_) (fun i => ?_) (fun i => ?_)
        · rw [mI_no (by decide), mI_no (by decide), mI_at cl, c1]
        · rw [mI_no (by decide), mI_at cl, c2, mI_no (by decide)]
        · rw [mI_at cl, c3, mI_no (by decide), mI_no (by decide)]
          rfl
      · obtain ⟨c1, c2, c3⟩ := d1 g
        rw [mX6_loadStates_go, if_neg (by decide), if_pos rfl]
        unfold mX6_loadStates_b1
        refine mTo.ix (N := mLen 84) rfl (show j < 8 by omega) (show 8 < 2 ^ 31 by decide) (mTo.lt ?_)
        rw [if_neg (by decide)]
        refine mTo.so (T_item (V := mI V 84 (nI j) (nI (Z j))) (k := 1) (x := nI (O j)) hq.2.1 (by omega) g (by omega) rfl (by rw [n1, hq.2.2.2 _ (by omega)]; exact c2)) (mTo.ix rfl (by omega) (by omega) (mTo.lt ?_))
        rw [if_neg (by decide)]
        refine mTo.so (T_item (V := mI (mI V 84 (nI j) (nI (Z j))) 85 (nI j) (nI (O j))) (k := 2) (x := nI (Fi j)) hq.2.1 (by omega) g (by omega) rfl (by rw [n2, n1, hq.2.2.2 _ (by omega)]; exact c3)) (mTo.ix rfl (by omega) (by omega) (mTo.lt (mTo.lt ?_)))
        rw [nI_1]
        refine fin _ rfl (by rw [n3, n2, n1]) (fun i => ?_) (fun i => ?_) (fun i => ?_)
        · rw [mI_no (by decide), mI_no (by decide), mI_at cl]
        · rw [mI_no (by decide), mI_at cl, mI_no (by decide)]
        · rw [mI_at cl, mI_no (by decide), mI_no (by decide)]
theorem T_loadStates {F e s m : Nat} {b : Int32} {d : Nat → Int32} {Z O Fi : Nat → Nat} {V : mV} (hF : 64 ≤ F) (he : 256 ≤ e) (hs : s ≤ 8) (hm : m ≤ 8) (hd : qA d m s Z O Fi) (hq : enQ V e s m b d) : mTo (mX6_loadStates F e V) (fun p => mcS p.2 s Z O Fi ∧ mAv (wX6_loadStates e) V p.2) := by
  have main : mTo (mX6_loadStates F e V) (fun p => mcS p.2 s Z O Fi) := by
    unfold mX6_loadStates mX6_loadStates_s
    refine mTo.lt ?_
    have q2 : enQ (mF V 8 7 (V.fI e 1)) e s m b d := by
      obtain ⟨a1, a2, a3, a4⟩ := hq
      exact ⟨by rw [mF_no (Or.inl (by omega))]; exact a1, by rw [mF_no (Or.inl (by omega))]; exact a2, by rw [mF_no (Or.inl (by omega))]; exact a3, a4⟩
    exact T_loadStates_go he hs hm hd F 0 _ (by omega) (by omega) q2 (by rw [mF_at]; exact hq.1) (fun i hi => absurd hi (Nat.not_lt_zero i))
  obtain ⟨p, e1, q⟩ := main
  exact ⟨p, e1, q, NX6_loadStates (v := p.1) e1⟩
/-- the node that is asked for -/
def qN (s b : Nat) : Nat := if b < s then b else s - 1
theorem T_nodeAsked {F e s m b : Nat} {d : Nat → Int32} {V : mV} (hs : s ≤ 8) (h0 : 0 < s) (hb : b < 2 ^ 20) (hq : enQ V e s m (nI b) d) : mX3_nodeAsked F e V = some (nI (qN s b)) := by
  unfold mX3_nodeAsked qN
  rw [hq.1, hq.2.2.1]
  by_cases h : s ≤ b
  · rw [if_pos ((nI_leI (by omega) (by omega)).mpr h), if_neg (by omega)]
    obtain ⟨t, rfl⟩ : ∃ t, s = t + 1 := ⟨s - 1, by omega⟩
    rw [nI_pred]
    rfl
  · rw [if_neg (fun z => h ((nI_leI (by omega) (by omega)).mp z)), if_pos (by omega)]
theorem qN_lt {s b : Nat} (h0 : 0 < s) : qN s b < s := by
  unfold qN
  by_cases h : b < s
  · rw [if_pos h]
    exact h
  · rw [if_neg h]
    omega
theorem T_judgeLetters_go {F r s : Nat} {Ln : Nat → Nat} {Z O Fi : Nat → Nat} {xs : List Int32} {V : mV} {q : Nat} (hs : s ≤ 8) (hZ : ∀ i, i < s → Z i < s ∧ O i < s ∧ Fi i ≤ 1) (h0 : 0 < s) (hq : q < s) (hS : mcS V s Z O Fi) (hR : rowIs Ln V r xs) (hi : inRow xs 2) : ∀ k' j, (xs.length - j) * 2 + 1 ≤ k' → j ≤ xs.length → mTo (mX6_judgeLetters_go F k' 0 Ln r (nI (wlk Z O xs 0 j)) (nI (wlk Z O xs q j)) (nI j) 0 V) (fun p => p.1 = 0 ↔ lettOK Z O Fi q xs) := by
  have key : ∀ j, wlk Z O xs 0 j < s ∧ wlk Z O xs q j < s := fun j => by
    induction j with
    | zero => exact ⟨h0, hq⟩
    | succ j ih =>
      rw [wlk, wlk]
      by_cases e : xs.getD j 0 = 0
      · rw [if_pos e, if_pos e]
        exact ⟨(hZ _ ih.1).1, (hZ _ ih.2).1⟩
      · rw [if_neg e, if_neg e]
        exact ⟨(hZ _ ih.1).2.1, (hZ _ ih.2).2.1⟩
  have n := hR.n
  intro k'
  induction k' using Nat.strongRecOn with
  | ind k' ih =>
    intro j h1 h2
    obtain ⟨x, rfl⟩ : ∃ x, k' = x + 1 := ⟨k' - 1, by omega⟩
    obtain ⟨k1, k2⟩ := key j
    have c1 : (nI (wlk Z O xs 0 j)).toNatClampNeg = wlk Z O xs 0 j := nI_clamp (by omega)
    have c2 : (nI (wlk Z O xs q j)).toNatClampNeg = wlk Z O xs q j := nI_clamp (by omega)
    rw [mX6_judgeLetters_go, if_pos rfl]
    unfold mX6_judgeLetters_b0
    refine mTo.le hR.1 rfl (by omega) (by omega) (fun h => mTo.ix rfl (by omega) (by omega) (mTo.ix rfl (by omega) (by omega) ?_)) (fun h => mTo.so (T_rAt hR (by omega)) ?_)
    · have : j = xs.length := by omega
      subst this
      have f1 := (hZ _ k1).2.2
      have f2 := (hZ _ k2).2.2
      exact mTo.eqI (by rw [c1, (hS.2 _ k1).2.2]) (by rw [c2, (hS.2 _ k2).2.2]) (by omega) (by omega) (fun e => mTo.ret ⟨fun z => absurd (show (2 : Int32) = 0 from z) (by decide), fun z => absurd e z.2⟩) (fun e => mTo.ret ⟨fun _ => ⟨hi, e⟩, fun _ => rfl⟩)
    · obtain ⟨y, rfl⟩ : ∃ y, x = y + 1 := ⟨x - 1, by omega⟩
      have g := ih y (by omega) (j + 1) (by omega) (by omega)
      rw [wlk, wlk] at g
      refine mTo.ite (fun e => ?_) (fun e => ?_)
      · rw [if_pos e, if_pos e] at g
        rw [mX6_judgeLetters_go, if_neg (by decide), if_pos rfl]
        unfold mX6_judgeLetters_b1
        rw [if_neg (by decide)]
        refine mTo.ix rfl (by omega) (by omega) (mTo.lt ?_)
        rw [if_neg (by decide)]
        refine mTo.ix rfl (by omega) (by omega) (mTo.lt (mTo.lt ?_))
        rw [c1, c2, (hS.2 _ k1).1, (hS.2 _ k2).1, nI_1]
        exact g
      · rw [if_neg e, if_neg e] at g
        rw [mX6_judgeLetters_go, if_neg (by decide), if_pos rfl]
        unfold mX6_judgeLetters_b1
        rw [if_pos rfl]
        refine mTo.ix rfl (by omega) (by omega) (mTo.lt ?_)
        rw [if_pos rfl]
        refine mTo.ix rfl (by omega) (by omega) (mTo.lt (mTo.lt ?_))
        rw [c1, c2, (hS.2 _ k1).2.1, (hS.2 _ k2).2.1, nI_1]
        exact g
theorem T_judgeLetters {F e r s m b : Nat} {Ln : Nat → Nat} {d : Nat → Int32} {Z O Fi : Nat → Nat} {xs : List Int32} {V : mV} (hF : 2 ^ 12 ≤ F) (he : 256 ≤ e) (hr : 256 ≤ r) (hs : s ≤ 8) (h0 : 0 < s) (hm : m ≤ 8) (hb : b < 2 ^ 20) (hd : qA d m s Z O Fi) (hq : enQ V e s m (nI b) d) (hR : rowIs Ln V r xs) : mTo (mX6_judgeLetters F Ln e r V) (fun p => p.1 = 0 ↔ lettOK Z O Fi (qN s b) xs) := by
  unfold mX6_judgeLetters mX6_judgeLetters_s
  refine mTo.W (T_loadStates (by omega) he hs hm hd hq) (fun a V1 _ q => ?_)
  obtain ⟨q1, q2⟩ := q
  have q1 : mcS V1 s Z O Fi := q1
  have q2 : mAv (wX6_loadStates e) V V1 := q2
  have hq1 := hq.mv q2 (by unfold wX6_loadStates; omega) (by unfold wX6_loadStates; omega)
  have hR1 := hR.mv q2 (by unfold wX6_loadStates; omega) (by unfold wX6_loadStates; omega)
  have n := hR.n
  have no : ∀ {P : Prop}, (1 : Int32) = 0 → P := fun z => absurd z (by decide)
  refine mTo.N (T_rWithin (j := 0) (by omega) hR1 (by omega)) (fun v _ q => mTo.tf q (fun hc => mTo.ret ⟨fun z => no z, fun z => absurd ((inRow_iff (s := 2) (by omega) (by omega)).mp z.1) (fun y => hc y)⟩) (fun hc => mTo.so (T_nodeAsked hs h0 hb hq1) ?_))
  have hi : inRow xs 2 := (inRow_iff (s := 2) (by omega) (by omega)).mpr hc
  exact T_judgeLetters_go (q := qN s b) hs (fun i hi => ⟨(hd i hi).2.2.1, (hd i hi).2.2.2.1, (hd i hi).2.2.2.2⟩) h0 (qN_lt h0) q1 hR1 hi F 0 (by omega) (Nat.zero_le _)
theorem T_judgeLikeness_go {F e r s m b : Nat} {Ln : Nat → Nat} {d : Nat → Int32} {Z O Fi : Nat → Nat} {xs : List Int32} {V : mV} (hs : s ≤ 8) (h0 : 0 < s) (hb : b < 2 ^ 20) (hZ : ∀ i, i < s → Z i < s ∧ O i < s ∧ Fi i ≤ 1) (hq : enQ V e s m (nI b) d) (hS : mcS V s Z O Fi) (hR : rowIs Ln V r xs) (hl : xs.length = s) (hi : inRow xs s) : ∀ k', (∀ a, (s - a) * 20 + 300 ≤ k' → a ≤ s → (∀ x y, x < a → y < x → pX xs x = pX xs y → Fi x = Fi y) → mTo (mX6_judgeLikeness_go F k' 0 Ln e r (nI a) 0 V) (fun p => p.1 = 0 ↔ likeOK s Z O Fi (qN s b) xs)) ∧ (∀ a c, (s - a) * 20 - c + 299 ≤ k' → a < s → c ≤ a → (∀ x y, x < a → y < x → pX xs x = pX xs y → Fi x = Fi y) → (∀ y, y < c → pX xs a = pX xs y → Fi a = Fi y) → mTo (mX6_judgeLikeness_go F k' 1 Ln e r (nI a) (nI c) V) (fun p => p.1 = 0 ↔ likeOK s Z O Fi (qN s b) xs)) ∧ (∀ a, (s - a) * 20 + 100 ≤ k' → a ≤ s → (∀ x y, x < s → y < x → pX xs x = pX xs y → Fi x = Fi y) → (∀ x y, x < a → y < x → pX xs x = pX xs y → pX xs (Z x) = pX xs (Z y) ∧ pX xs (O x) = pX xs (O y)) → mTo (mX6_judgeLikeness_go F k' 2 Ln e r (nI a) 0 V) (fun p => p.1 = 0 ↔ likeOK s Z O Fi (qN s b) xs)) ∧ (∀ a c, (s - a) * 20 - c + 99 ≤ k' → a < s → c ≤ a → (∀ x y, x < s → y < x → pX xs x = pX xs y → Fi x = Fi y) → (∀ x y, x < a → y < x → pX xs x = pX xs y → pX xs (Z x) = pX xs (Z y) ∧ pX xs (O x) = pX xs (O y)) → (∀ y, y < c → pX xs a = pX xs y → pX xs (Z a) = pX xs (Z y) ∧ pX xs (O a) = pX xs (O y)) → mTo (mX6_judgeLikeness_go F k' 3 Ln e r (nI a) (nI c) V) (fun p => p.1 = 0 ↔ likeOK s Z O Fi (qN s b) xs)) := by
  have ia : ∀ i, i < s → pX xs i < s ∧ xs.getD i 0 = nI (pX xs i) := fun i h => hi.p (by omega) (by omega)
  intro k'
  induction k' with
  | zero => exact ⟨fun a h => by omega, fun a c h => by omega, fun a h => by omega, fun a c h => by omega⟩
  | succ k ih =>
    obtain ⟨ih0, ih1, ih2, ih3⟩ := ih
    refine ⟨fun a h1 h2 hA => ?_, fun a c h1 h2 h3 hA hB => ?_, fun a h1 h2 hF hA => ?_, fun a c h1 h2 h3 hF hA hB => ?_⟩
    · rw [mX6_judgeLikeness_go, if_pos rfl]
      unfold mX6_judgeLikeness_b0
      refine mTo.le hS.1 rfl (by omega) (by omega) (fun h => ?_) (fun h => ?_)
      · have : a = s := by omega
        subst this
        exact ih2 0 (by omega) (by omega) hA (fun x y hx => by omega)
      · exact ih1 a 0 (by omega) h (by omega) hA (fun y hy => by omega)
    · rw [mX6_judgeLikeness_go, if_neg (by decide), if_pos rfl]
      unfold mX6_judgeLikeness_b1
      refine mTo.le rfl rfl (by omega) (by omega) (fun h => mTo.lt ?_) (fun h => mTo.so (T_rAt hR (by omega)) (mTo.so (T_rAt hR (by omega)) ?_))
      · have : c = a := by omega
        subst this
        rw [nI_1]
        refine ih0 (c + 1) (by omega) (by omega) (fun x y hx hy e => ?_)
        by_cases z : x = c
        · subst z
          exact hB y hy e
        · exact hA x y (by omega) hy e
      · obtain ⟨p1, p2⟩ := ia a h2
        obtain ⟨p3, p4⟩ := ia c (by omega)
        have nxt : (pX xs a = pX xs c → Fi a = Fi c) → mTo (mX6_judgeLikeness_go F k 1 Ln e r (nI a) (nI (c + 1)) V) (fun p => p.1 = 0 ↔ likeOK s Z O Fi (qN s b) xs) := fun w => ih1 a (c + 1) (by omega) h2 (by omega) hA (fun y hy e => by
          by_cases z : y = c
          · subst z
            exact w e
          · exact hB y (by omega) e)
        refine mTo.eqI p2 p4 (by omega) (by omega) (fun e => mTo.ix rfl (by omega) (by omega) (mTo.ix rfl (by omega) (by omega) ?_)) (fun e => mTo.lt ?_)
        · have f1 := (hZ _ h2).2.2
          have f2 := (hZ c (by omega)).2.2
          refine mTo.eqI (by rw [nI_clamp (by omega), (hS.2 _ h2).2.2]) (by rw [nI_clamp (by omega), (hS.2 c (by omega)).2.2]) (by omega) (by omega) (fun f => mTo.lt ?_) (fun f => mTo.ret ⟨fun z => absurd (show (2 : Int32) = 0 from z) (by decide), fun z => absurd (z.2.1 a c h2 h e) f⟩)
          rw [nI_1]
          exact nxt (fun _ => f)
        · rw [nI_1]
          exact nxt (fun z => absurd z e)
    · rw [mX6_judgeLikeness_go, if_neg (by decide), if_neg (by decide), if_pos rfl]
      unfold mX6_judgeLikeness_b2
      refine mTo.le hS.1 rfl (by omega) (by omega) (fun h => ?_) (fun h => ?_)
      · have : a = s := by omega
        subst this
        have ql := qN_lt (s := a) (b := b) h0
        obtain ⟨p1, p2⟩ := ia 0 h0
        obtain ⟨p3, p4⟩ := ia _ ql
        refine mTo.so (T_rAt (j := 0) hR (by omega)) (mTo.so (T_nodeAsked hs h0 hb hq) (mTo.so (T_rAt hR (by omega)) ?_))
        exact mTo.eqI p2 p4 (by omega) (by omega) (fun f => mTo.ret ⟨fun _ => ⟨⟨hl, hi⟩, hF, hA, f⟩, fun _ => rfl⟩) (fun f => mTo.ret ⟨fun z => absurd (show (4 : Int32) = 0 from z) (by decide), fun z => absurd z.2.2.2 f⟩)
      · exact ih3 a 0 (by omega) h (by omega) hF hA (fun y hy => by omega)
    · rw [mX6_judgeLikeness_go, if_neg (by decide), if_neg (by decide), if_neg (by decide), if_pos rfl]
      unfold mX6_judgeLikeness_b3
      refine mTo.le rfl rfl (by omega) (by omega) (fun h => mTo.lt ?_) (fun h => mTo.so (T_rAt hR (by omega)) (mTo.so (T_rAt hR (by omega)) ?_))
      · have : c = a := by omega
        subst this
        rw [nI_1]
        refine ih2 (c + 1) (by omega) (by omega) hF (fun x y hx hy e => ?_)
        by_cases z : x = c
        · subst z
          exact hB y hy e
        · exact hA x y (by omega) hy e
      · obtain ⟨p1, p2⟩ := ia a h2
        obtain ⟨p3, p4⟩ := ia c (by omega)
        have nxt : (pX xs a = pX xs c → pX xs (Z a) = pX xs (Z c) ∧ pX xs (O a) = pX xs (O c)) → mTo (mX6_judgeLikeness_go F k 3 Ln e r (nI a) (nI (c + 1)) V) (fun p => p.1 = 0 ↔ likeOK s Z O Fi (qN s b) xs) := fun w => ih3 a (c + 1) (by omega) h2 (by omega) hF hA (fun y hy e => by
          by_cases z : y = c
          · subst z
            exact w e
          · exact hB y (by omega) e)
        have alike : mTo (mX6_goAlike F Ln r (nI a) (nI c) V) (fun w => (w = 0 ∨ w = 1) ∧ (w ≠ 0 ↔ (pX xs (Z a) = pX xs (Z c) ∧ pX xs (O a) = pX xs (O c)))) := by
          obtain ⟨z1, z2, _⟩ := hZ a h2
          obtain ⟨z3, z4, _⟩ := hZ c (by omega)
          obtain ⟨u1, u2, _⟩ := hS.2 a h2
          obtain ⟨u3, u4, _⟩ := hS.2 c (by omega)
          have ca : (nI a).toNatClampNeg = a := nI_clamp (by omega)
          have cc : (nI c).toNatClampNeg = c := nI_clamp (by omega)
          have la := fun i h => (ia i h).1
          unfold mX6_goAlike
          rw [show V.rI 84 (nI a).toNatClampNeg = nI (Z a) by rw [ca, u1], show V.rI 84 (nI c).toNatClampNeg = nI (Z c) by rw [cc, u3], show V.rI 85 (nI a).toNatClampNeg = nI (O a) by rw [ca, u2], show V.rI 85 (nI c).toNatClampNeg = nI (O c) by rw [cc, u4]]
          have x1 := la _ z1
          have x2 := la _ z2
          have x3 := la _ z3
          have x4 := la _ z4
          refine mTo.ix rfl (by omega) (by omega) (mTo.so (T_rAt hR (by omega)) (mTo.ix rfl (by omega) (by omega) (mTo.so (T_rAt hR (by omega)) ?_)))
          refine mTo.eqI (ia _ z1).2 (ia _ z3).2 (by omega) (by omega) (fun f => ?_) (fun f => mTo.ret ⟨Or.inl rfl, fun z => absurd rfl z, fun z => absurd z.1 f⟩)
          refine mTo.ix rfl (by omega) (by omega) (mTo.so (T_rAt hR (by omega)) (mTo.ix rfl (by omega) (by omega) (mTo.so (T_rAt hR (by omega)) ?_)))
          exact mTo.eqI (ia _ z2).2 (ia _ z4).2 (by omega) (by omega) (fun g => mTo.ret ⟨Or.inr rfl, fun _ => ⟨f, g⟩, fun _ => by decide⟩) (fun g => mTo.ret ⟨Or.inl rfl, fun z => absurd rfl z, fun z => absurd z.2 g⟩)
        refine mTo.eqI p2 p4 (by omega) (by omega) (fun e => mTo.N alike (fun w _ q => mTo.tf q (fun z => mTo.ret ⟨fun y => absurd (show (3 : Int32) = 0 from y) (by decide), fun y => absurd (y.2.2.1 a c h2 h e) z⟩) (fun z => mTo.lt ?_))) (fun e => mTo.lt ?_)
        · rw [nI_1]
          exact nxt (fun _ => z)
        · rw [nI_1]
          exact nxt (fun z => absurd z e)
theorem T_judgeLikeness {F e r s m b : Nat} {Ln : Nat → Nat} {d : Nat → Int32} {Z O Fi : Nat → Nat} {xs : List Int32} {V : mV} (hF : 2 ^ 12 ≤ F) (he : 256 ≤ e) (hr : 256 ≤ r) (hs : s ≤ 8) (h0 : 0 < s) (hm : m ≤ 8) (hb : b < 2 ^ 20) (hd : qA d m s Z O Fi) (hq : enQ V e s m (nI b) d) (hR : rowIs Ln V r xs) : mTo (mX6_judgeLikeness F Ln e r V) (fun p => p.1 = 0 ↔ likeOK s Z O Fi (qN s b) xs) := by
  unfold mX6_judgeLikeness mX6_judgeLikeness_s
  refine mTo.W (T_loadStates (by omega) he hs hm hd hq) (fun a V1 _ q => ?_)
  obtain ⟨q1, q2⟩ := q
  have q1 : mcS V1 s Z O Fi := q1
  have q2 : mAv (wX6_loadStates e) V V1 := q2
  have hq1 := hq.mv q2 (by unfold wX6_loadStates; omega) (by unfold wX6_loadStates; omega)
  have hR1 := hR.mv q2 (by unfold wX6_loadStates; omega) (by unfold wX6_loadStates; omega)
  have n := hR.n
  have no : ∀ {P : Prop}, (1 : Int32) = 0 → P := fun z => absurd z (by decide)
  refine mTo.eqI hR1.1 q1.1 (by omega) (by omega) (fun hl => ?_) (fun hl => mTo.ret ⟨fun z => no z, fun z => absurd z.1.1 hl⟩)
  rw [q1.1]
  refine mTo.N (T_rWithin (j := 0) (by omega) hR1 (by omega)) (fun v _ q => mTo.tf q (fun hc => mTo.ret ⟨fun z => no z, fun z => absurd z.1.2 (fun y => hc ((inRow_iff (by omega) h0).mp y))⟩) (fun hc => ?_))
  have hi := (inRow_iff (by omega) h0).mpr hc
  exact (T_judgeLikeness_go hs h0 hb (fun i hi => ⟨(hd i hi).2.2.1, (hd i hi).2.2.2.1, (hd i hi).2.2.2.2⟩) hq1 q1 hR1 hl hi F).1 0 (by omega) (Nat.zero_le _) (fun x y hx => by omega)
end
