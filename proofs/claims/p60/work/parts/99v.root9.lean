/-! THE PURE PART, roots: the machine's senses and changes of sign. -/
section
def sI (x : Int) : Int32 := if x < 0 then -1 else if 0 < x then 1 else 0
theorem sI_sg {x y : Int} (h : sgI x = sgI y) : sI x = sI y := by
  unfold sI
  rcases Int.lt_trichotomy x 0 with a | a | a
  · rcases Int.lt_trichotomy y 0 with b | b | b
    · rw [if_pos a, if_pos b]
    · subst b
      rw [sgI_n a, sgI_0] at h
      cases h
    · rw [sgI_n a, sgI_p b] at h
      cases h
  · subst a
    rcases Int.lt_trichotomy y 0 with b | b | b
    · rw [sgI_n b, sgI_0] at h
      cases h
    · rw [b]
    · rw [sgI_p b, sgI_0] at h
      cases h
  · rcases Int.lt_trichotomy y 0 with b | b | b
    · rw [sgI_p a, sgI_n b] at h
      cases h
    · subst b
      rw [sgI_p a, sgI_0] at h
      cases h
    · rw [if_neg (by omega), if_pos a, if_neg (by omega), if_pos b]
theorem sh8 : ∀ k, k < 17 → (8 : Int64) <<< ((nI k).toInt64 &&& 63) = jO (((8 * 2 ^ k : Nat) : Int)) ∧ (1 : Int64) <<< ((nI k).toInt64 &&& 63) = jO (((2 ^ k : Nat) : Int)) := by decide +kernel
theorem hvP_le {p : List Int} {d : Nat} {o u : Int} (hd : d ≤ 3) (hs : sml 1048576 p) (h7 : d = 3 → sml 7 p) (ho : o.natAbs ≤ 524288) (hu : u.natAbs ≤ 65536) : (hvP p d o u).natAbs < 2 ^ 62 := by
  rcases (by omega : d = 0 ∨ d = 1 ∨ d = 2 ∨ d = 3) with rfl | rfl | rfl | rfl
  · have := hs 0 (by decide)
    show (gZ p 0).natAbs < _
    omega
  · have a := nm (hs 1 (by decide)) ho
    have b := nm (hs 0 (by decide)) hu
    show (gZ p 1 * o + gZ p 0 * u).natAbs < _
    omega
  · have a := nm (hs 2 (by decide)) (nm ho ho)
    have b := nm (hs 1 (by decide)) (nm ho hu)
    have c := nm (hs 0 (by decide)) (nm hu hu)
    show (gZ p 2 * (o * o) + gZ p 1 * (o * u) + gZ p 0 * (u * u)).natAbs < _
    omega
  · have s := h7 rfl
    have a := nm (s 3 (by decide)) (nm (nm ho ho) ho)
    have b := nm (s 2 (by decide)) (nm (nm ho ho) hu)
    have c := nm (s 1 (by decide)) (nm (nm ho hu) hu)
    have e := nm (s 0 (by decide)) (nm (nm hu hu) hu)
    show (gZ p 3 * (o * o * o) + gZ p 2 * (o * o * u) + gZ p 1 * (o * u * u) + gZ p 0 * (u * u * u)).natAbs < _
    omega
theorem T_senseAt {F i k n : Nat} {V : mV} {ch : List (List Int × Nat)} (hF : 1000 ≤ F) (hc : chI V ch) (ok : okC ch) (hi : i < ch.length) (hk : k ≤ 16) (hn : n ≤ 2 ^ k) : mX8_senseAt F (nI i) (nI k) (nI n) V = some (sI (hvP (ch.getD i ([], 0)).1 (ch.getD i ([], 0)).2 (16 * (n : Int) - ((8 * 2 ^ k : Nat) : Int)) ((2 ^ k : Nat) : Int))) := by
  obtain ⟨ok1, ok2⟩ := okC_d ok
  obtain ⟨p, dd, hp⟩ : ∃ p dd, ch.getD i ([], 0) = (p, dd) := ⟨_, _, rfl⟩
  obtain ⟨r0, pl⟩ := hc.2 i hi
  rw [hp] at r0 pl ⊢
  have r0 : V.rI 67 i = nI dd := r0
  have pl : plI V (62 + i) p := pl
  have mem : (p, dd) ∈ ch := by
    rw [← hp, List.getD_eq_getElem?_getD, List.getElem?_eq_getElem hi]
    exact List.getElem_mem _
  obtain ⟨d3, s20, s7⟩ := ok1 _ mem
  have d3 : dd ≤ 3 := d3
  have p16 : (2 : Nat) ^ k ≤ 65536 := show (2 : Nat) ^ k ≤ 2 ^ 16 from Nat.pow_le_pow_right (by decide) hk
  -- the value
  have val : ∀ (o u : Int), o.natAbs ≤ 524288 → u.natAbs ≤ 65536 → ∀ k', 10 ≤ k' → mX8_senseAt_go F k' 1 1 (nI dd - 1) (nI i) 0 (jO o) (jO u) 0 (jO (gZ p dd)) V = some (sI (hvP p dd o u)) := by
    intro o u ho hu k' hk'
    have st : ∀ k' t (w v : Int), t < 4 → mX8_senseAt_go F (k' + 1) 1 (jO w) (nI t) (nI i) 0 (jO o) (jO u) 0 (jO v) V = mX8_senseAt_go F k' 1 (jO (w * u)) (nI t + -1) (nI i) 0 (jO o) (jO u) 0 (jO (v * o + gZ p t * (w * u))) V := fun k' t w v ht => by
      rw [mX8_senseAt_go, if_neg (by decide), if_pos rfl]
      unfold mX8_senseAt_b1
      rw [if_neg (nI_pos (by omega)), nI_clamp (n := i) (by omega), nI_clamp (n := t) (by omega), pl t ht, jO_mul, jO_mul]
      show (if nI i < 0 ∨ 5 ≤ i then none else (if nI t < 0 ∨ 4 ≤ t then none else mX8_senseAt_go F k' 1 (jO (w * u)) (nI t + -1) (nI i) 0 (jO o) (jO u) 0 (jO (v * o) + jO (gZ p t) * jO (w * u)) V)) = _
      rw [if_neg (fun z => z.elim (nI_pos (by omega)) (fun z => by omega)), if_neg (fun z => z.elim (nI_pos (by omega)) (fun z => by omega)), jO_mul, jO_add]
    have en : ∀ k' (w v : Int), v.natAbs < 2 ^ 62 → mX8_senseAt_go F (k' + 1) 1 (jO w) (-1) (nI i) 0 (jO o) (jO u) 0 (jO v) V = some (sI v) := fun k' w v hv => by
      rw [mX8_senseAt_go, if_neg (by decide), if_pos rfl]
      unfold mX8_senseAt_b1
      rw [if_pos lt_m1]
      have c1 : lg_cmp (jO v) 0 ≤ 0 ↔ v ≤ 0 := lg_cmp_le2 (x := v) (y := 0) hv (by decide)
      have c2 : 0 ≤ lg_cmp (jO v) 0 ↔ 0 ≤ v := cmpge (x := v) (y := 0) hv (by decide)
      unfold sI
      rcases Int.lt_trichotomy v 0 with z | z | z
      · rw [if_pos (c1.mpr (by omega)), if_neg (fun y => by have := c2.mp y; omega), if_pos z]
      · rw [if_pos (c1.mpr (by omega)), if_pos (c2.mpr (by omega)), if_neg (by omega), if_neg (by omega)]
      · rw [if_neg (fun y => by have := c1.mp y; omega), if_neg (by omega), if_pos z]
    have fin := hvP_le d3 s20 s7 ho hu
    have m1 : nI 0 + (-1 : Int32) = -1 := by decide
    have one : (1 : Int64) = jO 1 := rfl
    rw [one]
    obtain ⟨q, rfl⟩ : ∃ q, k' = q + 1 + 1 + 1 + 1 := ⟨k' - 4, by omega⟩
    rcases (by omega : dd = 0 ∨ dd = 1 ∨ dd = 2 ∨ dd = 3) with rfl | rfl | rfl | rfl
    · rw [show nI 0 - 1 = (-1 : Int32) from by decide]
      exact en _ _ _ fin
    · rw [nI_pred, st _ 0 _ _ (by omega), m1, Int.one_mul]
      exact en _ _ _ fin
    · rw [nI_pred, st _ 1 _ _ (by omega), nI_m1, st _ 0 _ _ (by omega), m1, Int.one_mul]
      have e : (gZ p 2 * o + gZ p 1 * u) * o + gZ p 0 * (u * u) = hvP p 2 o u := by
        show _ = gZ p 2 * (o * o) + gZ p 1 * (o * u) + gZ p 0 * (u * u)
        grind
      rw [e]
      exact en _ _ _ fin
    · rw [nI_pred, st _ 2 _ _ (by omega), nI_m1, st _ 1 _ _ (by omega), nI_m1, st _ 0 _ _ (by omega), m1, Int.one_mul]
      have e : ((gZ p 3 * o + gZ p 2 * u) * o + gZ p 1 * (u * u)) * o + gZ p 0 * (u * u * u) = hvP p 3 o u := by
        show _ = gZ p 3 * (o * o * o) + gZ p 2 * (o * o * u) + gZ p 1 * (o * u * u) + gZ p 0 * (u * u * u)
        grind
      rw [e]
      exact en _ _ _ fin
  have sv : ∀ (o u : Int), o.natAbs ≤ 524288 → u.natAbs ≤ 65536 → ∀ k', 10 ≤ k' → ∀ {Q : Int32 → Prop}, Q (sI (hvP p dd o u)) → mTo (if nI i < 0 ∨ 5 ≤ (nI i).toNatClampNeg then none else (mLt (V.rI 67 (nI i).toNatClampNeg) fun x3 => (if nI i < 0 ∨ 5 ≤ (nI i).toNatClampNeg then none else (if x3 < 0 ∨ 4 ≤ (x3).toNatClampNeg then none else (mLt (V.rJ (62 + (nI i).toNatClampNeg) (x3).toNatClampNeg) fun x7 => (mLt (x3 - (1 : Int32)) fun x8 => (mX8_senseAt_go F k' 1 ((1 : Int64)) (x8) (nI i) 0 (jO o) (jO u) 0 (x7) V))))))) Q := fun o u ho hu k' hk' Q hQ => by
    refine mTo.ix rfl (by omega) (by omega) (mTo.lt ?_)
    rw [nI_clamp (n := i) (by omega), r0]
    refine mTo.ic rfl (by omega) (by omega) (mTo.ix rfl (show dd < 4 by omega) (by omega) (mTo.lt (mTo.lt ?_)))
    rw [nI_clamp (n := dd) (by omega), pl dd (by omega), val o u ho hu k' hk']
    exact mTo.ret hQ
  have go : ∀ k' t r (o : Int), (k - t) + 20 ≤ k' → t ≤ k → t = r → 16 * (n : Int) - ((8 * 2 ^ k : Nat) : Int) = ((2 ^ r : Nat) : Int) * o → mTo (mX8_senseAt_go F k' 0 0 0 (nI i) (nI k) (jO o) (jO ((2 ^ (k - r) : Nat) : Int)) (nI t) 0 V) (fun v => v = sI (hvP p dd (16 * (n : Int) - ((8 * 2 ^ k : Nat) : Int)) ((2 ^ k : Nat) : Int))) := by
    intro k'
    induction k' with
    | zero => intro t r o h; omega
    | succ x ih =>
      intro t r o c1 c2 c3 c4
      subst c3
      have tp : 0 < (2 : Nat) ^ t := Nat.two_pow_pos t
      have pw : (2 : Nat) ^ t * 2 ^ (k - t) = 2 ^ k := by rw [← Nat.pow_add]; congr 1; omega
      have ub : (2 : Nat) ^ (k - t) ≤ 65536 := Nat.le_trans (Nat.pow_le_pow_right (by decide) (Nat.sub_le k t)) p16
      have tot : (16 * (n : Int) - ((8 * 2 ^ k : Nat) : Int)).natAbs ≤ 524288 := by
        have : n ≤ 65536 := by omega
        omega
      have ob : o.natAbs ≤ 524288 := by
        rw [c4, Int.natAbs_mul, Int.natAbs_natCast] at tot
        have : 1 * o.natAbs ≤ 2 ^ t * o.natAbs := Nat.mul_le_mul_right _ tp
        omega
      have same : sI (hvP p dd o ((2 ^ (k - t) : Nat) : Int)) = sI (hvP p dd (16 * (n : Int) - ((8 * 2 ^ k : Nat) : Int)) ((2 ^ k : Nat) : Int)) := by
        obtain ⟨c, c5, c6⟩ := hvP_sc (p := p) (c := ((2 ^ t : Nat) : Int)) (x := o) (q := ((2 ^ (k - t) : Nat) : Int)) dd d3
        rw [← c4, show ((2 ^ t : Nat) : Int) * ((2 ^ (k - t) : Nat) : Int) = ((2 ^ k : Nat) : Int) by rw [← pw, Int.natCast_mul]] at c6
        exact sI_sg (sgI_mul (c5 (by omega)) c6.symm)
      have done := sv o ((2 ^ (k - t) : Nat) : Int) ob (by rw [Int.natAbs_natCast]; exact ub) x (by omega) (Q := fun v => v = sI (hvP p dd (16 * (n : Int) - ((8 * 2 ^ k : Nat) : Int)) ((2 ^ k : Nat) : Int))) same
      rw [mX8_senseAt_go, if_pos rfl]
      unfold mX8_senseAt_b0
      have two : (2 : Int64) = jO 2 := rfl
      have onj : (1 : Int64) = jO 1 := rfl
      have o62 : o.natAbs < 2 ^ 62 := by omega
      have u62 : (((2 ^ (k - t) : Nat) : Int)).natAbs < 2 ^ 62 := by rw [Int.natAbs_natCast]; omega
      have rl : (o - o.tdiv 2 * 2).natAbs < 2 ^ 62 := Nat.lt_of_le_of_lt (tdiv_rest (a := o) (b := 2) (by decide)).2.2 o62
      have ev : o - o.tdiv 2 * 2 = 0 → o.tdiv 2 * 2 = o := fun z => by omega
      refine mTo.le rfl rfl (by omega) (by omega) (fun z => done) (fun z => ?_)
      refine mTo.ite (fun y => mTo.ite (fun w => done) (fun w => mTo.lt (mTo.lt (mTo.lt ?_)))) (fun y => done)
      rw [two, jO_div o62 (by decide), jO_mul, jO_sub] at y
      have y := ev ((cmpZ rl).mp y)
      have ux : (2 : Nat) ^ (k - t) = 2 ^ (k - (t + 1)) * 2 := by
        rw [← Nat.pow_succ]
        congr 1
        omega
      have ud : (((2 ^ (k - t) : Nat) : Int)).tdiv 2 = ((2 ^ (k - (t + 1)) : Nat) : Int) := by
        rw [ux, Int.natCast_mul]
        exact Int.mul_tdiv_cancel _ (by decide)
      rw [two, jO_div o62 (by decide), jO_div u62 (by decide), ud, nI_1]
      refine ih (t + 1) (t + 1) (o.tdiv 2) (by omega) (by omega) rfl ?_
      rw [c4, Nat.pow_succ, Int.natCast_mul]
      have : ((2 ^ t : Nat) : Int) * o = ((2 ^ t : Nat) : Int) * (o.tdiv 2 * 2) := by rw [y]
      rw [this]
      generalize o.tdiv 2 = z
      generalize ((2 ^ t : Nat) : Int) = w
      show w * (z * 2) = w * 2 * z
      grind
  have g := go F 0 0 (16 * (n : Int) - ((8 * 2 ^ k : Nat) : Int)) (by omega) (by omega) rfl (by show _ = 1 * _; rw [Int.one_mul])
  have e : mX8_senseAt F (nI i) (nI k) (nI n) V = mX8_senseAt_go F F 0 0 0 (nI i) (nI k) (jO (16 * (n : Int) - ((8 * 2 ^ k : Nat) : Int))) (jO ((2 ^ (k - 0) : Nat) : Int)) (nI 0) 0 V := by
    unfold mX8_senseAt mX8_senseAt_s
    rw [(sh8 k (by omega)).1, (sh8 k (by omega)).2]
    show mX8_senseAt_go F F 0 0 0 (nI i) (nI k) ((16 : Int64) * Int32.toInt64 (nI n) - jO ((8 * 2 ^ k : Nat) : Int)) (jO ((2 ^ k : Nat) : Int)) (nI 0) 0 V = _
    rw [jO_32, nI_toInt (by omega), show (16 : Int64) = jO 16 from rfl, jO_mul, jO_sub]
    rfl
  rw [e]
  obtain ⟨v, h1, h2⟩ := g
  rw [h1, h2]
theorem sI_0 {x : Int} : sI x = 0 ↔ sgI x = 0 := by
  unfold sI
  rcases Int.lt_trichotomy x 0 with a | a | a
  · rw [if_pos a, sgI_n a]
    decide
  · subst a
    decide
  · rw [if_neg (by omega), if_pos a, sgI_p a]
    decide
theorem sI_eq {x y : Int} : sI x = sI y ↔ sgI x = sgI y := by
  refine ⟨fun h => ?_, sI_sg⟩
  unfold sI at h
  rcases Int.lt_trichotomy x 0 with a | a | a
  · rw [if_pos a] at h
    rcases Int.lt_trichotomy y 0 with b | b | b
    · rw [sgI_n a, sgI_n b]
    · rw [b] at h
      exact absurd h (by decide)
    · rw [if_neg (by omega), if_pos b] at h
      exact absurd h (by decide)
  · subst a
    rcases Int.lt_trichotomy y 0 with b | b | b
    · rw [if_pos b] at h
      exact absurd h (by decide)
    · rw [b]
    · rw [if_neg (show ¬ y < 0 by omega), if_pos b] at h
      exact absurd h (by decide)
  · rw [if_neg (by omega), if_pos a] at h
    rcases Int.lt_trichotomy y 0 with b | b | b
    · rw [if_pos b] at h
      exact absurd h (by decide)
    · rw [b] at h
      exact absurd h (by decide)
    · rw [sgI_p a, sgI_p b]
/-- the changes of sign at a point of the line -/
def VG (ch : List (List Int × Nat)) (k n : Nat) : Nat := VX ch (16 * (n : Int) - ((8 * 2 ^ k : Nat) : Int)) ((2 ^ k : Nat) : Int)
theorem vrA_le (a : Int) : ∀ l : List Int, vrA a l ≤ l.length
  | [] => Nat.le_refl _
  | s :: r => by
    rw [vrA]
    have := vrA_le a r
    have := vrA_le s r
    have e : (s :: r).length = r.length + 1 := rfl
    by_cases h : s = 0
    · rw [if_pos h]
      omega
    · rw [if_neg h]
      by_cases k : a ≠ 0 ∧ s ≠ a
      · rw [if_pos k]
        omega
      · rw [if_neg k]
        omega
theorem VG_le {ch : List (List Int × Nat)} (h : okC ch) (k n : Nat) : VG ch k n ≤ 4 := by
  unfold VG VX vrN
  refine Nat.le_trans (vrA_le _ _) ?_
  rw [List.length_map]
  exact (okC_d h).2
theorem T_changesAt {F k n : Nat} {V : mV} {ch : List (List Int × Nat)} (hF : 1000 ≤ F) (hc : chI V ch) (ok : okC ch) (hk : k ≤ 16) (hn : n ≤ 2 ^ k) : mX8_changesAt F (nI k) (nI n) V = some (nI (VG ch k n)) := by
  obtain ⟨_, l4⟩ := okC_d ok
  have go : ∀ m k' j (c : Nat) (a : Int), ch.length = j + m → m < k' → c + m ≤ 100 → mX8_changesAt_go F k' 0 (nI k) (nI n) (nI c) (sI a) (nI j) V = some (nI (c + vrA (sgI a) ((ch.drop j).map fun c => sgI (hvP c.1 c.2 (16 * (n : Int) - ((8 * 2 ^ k : Nat) : Int)) ((2 ^ k : Nat) : Int))))) := by
    intro m
    induction m with
    | zero =>
      intro k' j c a h1 h2 h3
      obtain ⟨k', rfl⟩ : ∃ q, k' = q + 1 := ⟨k' - 1, by omega⟩
      rw [mX8_changesAt_go, if_pos rfl]
      unfold mX8_changesAt_b0
      rw [hc.1, if_pos ((nI_leI (by omega) (by omega)).mpr (by omega)), List.drop_eq_nil_of_le (by omega)]
      rfl
    | succ m ih =>
      intro k' j c a h1 h2 h3
      obtain ⟨k', rfl⟩ : ∃ q, k' = q + 1 := ⟨k' - 1, by omega⟩
      have jl : j < ch.length := by omega
      rw [mX8_changesAt_go, if_pos rfl]
      unfold mX8_changesAt_b0
      rw [hc.1, if_neg (fun z => by have := (nI_leI (a := ch.length) (b := j) (by omega) (by omega)).mp z; omega), T_senseAt hF hc ok jl hk hn]
      obtain ⟨s, hs⟩ : ∃ s, s = hvP (ch.getD j ([], 0)).1 (ch.getD j ([], 0)).2 (16 * (n : Int) - ((8 * 2 ^ k : Nat) : Int)) ((2 ^ k : Nat) : Int) := ⟨_, rfl⟩
      have dr : (ch.drop j).map (fun c => sgI (hvP c.1 c.2 (16 * (n : Int) - ((8 * 2 ^ k : Nat) : Int)) ((2 ^ k : Nat) : Int))) = sgI s :: (ch.drop (j + 1)).map (fun c => sgI (hvP c.1 c.2 (16 * (n : Int) - ((8 * 2 ^ k : Nat) : Int)) ((2 ^ k : Nat) : Int))) := by
        rw [List.drop_eq_getElem_cons jl, List.map_cons, hs, List.getD_eq_getElem?_getD, List.getElem?_eq_getElem jl]
        rfl
      rw [dr, ← hs, vrA]
      show (if sI s = 0 then mX8_changesAt_go F k' 0 (nI k) (nI n) (nI c) (sI a) (nI j + 1) V else (if sI a = 0 then mX8_changesAt_go F k' 0 (nI k) (nI n) (nI c + 0) (sI s) (nI j + 1) V else (if sI s = sI a then mX8_changesAt_go F k' 0 (nI k) (nI n) (nI c + 0) (sI s) (nI j + 1) V else mX8_changesAt_go F k' 0 (nI k) (nI n) (nI c + 1) (sI s) (nI j + 1) V))) = _
      rw [nI_1, nI_1, show nI c + 0 = nI c from Int32.add_zero _]
      by_cases e : sgI s = 0
      · rw [if_pos (sI_0.mpr e), if_pos e]
        exact ih k' (j + 1) c a (by omega) (by omega) (by omega)
      · rw [if_neg (fun z => e (sI_0.mp z)), if_neg e]
        by_cases f : sgI a = 0
        · rw [if_pos (sI_0.mpr f), if_neg (fun z => z.1 f), Nat.zero_add]
          exact ih k' (j + 1) c s (by omega) (by omega) (by omega)
        · rw [if_neg (fun z => f (sI_0.mp z))]
          by_cases g : sgI s = sgI a
          · rw [if_pos (sI_eq.mpr g), if_neg (fun z => z.2 g), Nat.zero_add]
            exact ih k' (j + 1) c s (by omega) (by omega) (by omega)
          · rw [if_neg (fun z => g (sI_eq.mp z)), if_pos ⟨f, g⟩, ← Nat.add_assoc]
            exact ih k' (j + 1) (c + 1) s (by omega) (by omega) (by omega)
  unfold mX8_changesAt mX8_changesAt_s
  have := go ch.length F 0 0 0 (by omega) (by omega) (by omega)
  rw [Nat.zero_add] at this
  exact this
/-- how many roots a part has, by the chain -/
def rtN (ch : List (List Int × Nat)) (k i : Nat) : Nat := VG ch k i - VG ch k (i + 1)
theorem VG_mono {ch : List (List Int × Nat)} (ok : okC ch) {k i j : Nat} (h : i ≤ j) : VG ch k j ≤ VG ch k i := by
  have := Nat.two_pow_pos k
  exact VX_mono ok (by omega) (by omega)
theorem VG_up {ch : List (List Int × Nat)} (ok : okC ch) (k i c : Nat) : VG ch (k + c) (i * 2 ^ c) = VG ch k i := by
  have := Nat.two_pow_pos c
  unfold VG
  have e := VX_sc (ch := ch) (fun c h => ((okC_d ok).1 c h).1) (c := ((2 ^ c : Nat) : Int)) (x := 16 * (i : Int) - ((8 * 2 ^ k : Nat) : Int)) (q := ((2 ^ k : Nat) : Int)) (by omega)
  rw [← e]
  congr 1
  · rw [Nat.pow_add, Int.natCast_mul, Int.natCast_mul, Int.natCast_mul, Int.natCast_mul]
    generalize ((2 ^ c : Nat) : Int) = w
    generalize ((2 ^ k : Nat) : Int) = z
    grind
  · rw [Nat.pow_add, Int.natCast_mul, Int.mul_comm]
theorem rt_half {ch : List (List Int × Nat)} (ok : okC ch) (k i : Nat) : rtN ch k i = rtN ch (k + 1) (2 * i) + rtN ch (k + 1) (2 * i + 1) := by
  have e0 := VG_up ok k i 1
  have e1 := VG_up ok k (i + 1) 1
  rw [show i * 2 ^ 1 = 2 * i by omega] at e0
  rw [show (i + 1) * 2 ^ 1 = 2 * i + 1 + 1 by omega] at e1
  have m1 := VG_mono ok (k := k + 1) (show 2 * i ≤ 2 * i + 1 by omega)
  have m2 := VG_mono ok (k := k + 1) (show 2 * i + 1 ≤ 2 * i + 1 + 1 by omega)
  unfold rtN
  omega
theorem rt_16 {ch : List (List Int × Nat)} (ok : okC ch) (i : Nat) : rtN ch 16 i ≤ 1 := by
  have := VX_sep ok (16 * (i : Int) - ((8 * 2 ^ 16 : Nat) : Int))
  unfold rtN VG
  rw [show (16 * ((i + 1 : Nat) : Int) - ((8 * 2 ^ 16 : Nat) : Int)) = 16 * (i : Int) - ((8 * 2 ^ 16 : Nat) : Int) + 16 by omega]
  have e : ((2 ^ 16 : Nat) : Int) = 65536 := rfl
  rw [e]
  omega
theorem T_rootsOfPart {F k i : Nat} {V : mV} {ch : List (List Int × Nat)} (hF : 1000 ≤ F) (hc : chI V ch) (ok : okC ch) (hk : k ≤ 16) (hi : i < 2 ^ k) : mX8_rootsOfPart F (nI k) (nI i) V = some (nI (rtN ch k i)) := by
  unfold mX8_rootsOfPart
  rw [T_changesAt hF hc ok hk (by omega), nI_1]
  show mBN (mX8_changesAt F (nI k) (nI (i + 1)) V) _ = _
  rw [T_changesAt hF hc ok hk (by omega)]
  show some (nI (VG ch k i) - nI (VG ch k (i + 1))) = _
  have m := VG_mono ok (k := k) (show i ≤ i + 1 by omega)
  have := nI_add (rtN ch k i) (VG ch k (i + 1))
  rw [show rtN ch k i + VG ch k (i + 1) = VG ch k i by unfold rtN; omega] at this
  rw [← this]
  congr 1
  exact Int32.add_sub_cancel _ _
/-- a sign of the refutation's row -/
def sgR (ch : List (List Int × Nat)) (j : Nat) : Int32 := sI (hvP (ch.getD (j % ch.length) ([], 0)).1 (ch.getD (j % ch.length) ([], 0)).2 (16 * ((if j < ch.length then 0 else 1 : Nat) : Int) - 8) 1)
theorem T_signInRow {F j : Nat} {V : mV} {ch : List (List Int × Nat)} (hF : 1000 ≤ F) (hc : chI V ch) (ok : okC ch) (hj : j < 2 * ch.length) : mX8_signInRow F (nI j) V = some (sgR ch j) := by
  obtain ⟨_, l4⟩ := okC_d ok
  obtain ⟨n, hn⟩ : ∃ n, n = ch.length := ⟨_, rfl⟩
  rw [← hn] at hj l4
  unfold mX8_signInRow
  have mx : (if (1 : Int32) < V.fI 6 8 then V.fI 6 8 else (1 : Int32)) = nI n := by
    rw [hc.1, ← hn]
    by_cases e : 1 < n
    · rw [if_pos (show (1 : Int32) < nI n from (nI_ltI (a := 1) (by omega) (by omega)).mpr e)]
    · rw [if_neg (show ¬ (1 : Int32) < nI n from fun z => e ((nI_ltI (a := 1) (by omega) (by omega)).mp z)), show n = 1 by omega]
      rfl
  have md : nI j - nI j / nI n * nI n = nI (j % n) := by
    have e1 : (nI j % nI n).toInt = ((j % n : Nat) : Int) := by
      rw [i32rem (by rw [nI_toInt (by omega)]; omega), nI_toInt (by omega), nI_toInt (by omega), Int.natCast_emod]
    have e2 : nI j % nI n = nI (j % n) := by
      apply Int32.toInt_inj.mp
      have := Nat.mod_lt j (show 0 < n by omega)
      rw [e1, nI_toInt (by omega)]
    rw [← e2]
    exact irem_eq_mod _ _
  rw [mx, if_neg (fun z => by have := (nI_eq (a := n) (b := 0) (by omega) (by omega)).mp z; omega), md, hc.1, ← hn]
  have ml := Nat.mod_lt j (show 0 < n by omega)
  have s0 := T_senseAt (k := 0) (n := 0) hF hc ok (show j % n < ch.length by omega) (by omega) (by omega)
  have s1 := T_senseAt (k := 0) (n := 1) hF hc ok (show j % n < ch.length by omega) (by omega) (by omega)
  unfold sgR
  rw [← hn]
  by_cases e : j < n
  · rw [if_neg (fun z => by have := (nI_leI (a := n) (b := j) (by omega) (by omega)).mp z; omega), if_pos e]
    show mBN (mX8_senseAt F (nI (j % n)) (nI 0) (nI 0) V) _ = _
    rw [s0]
    rfl
  · rw [if_pos ((nI_leI (a := n) (b := j) (by omega) (by omega)).mpr (by omega)), if_neg e]
    show mBN (mX8_senseAt F (nI (j % n)) (nI 0) (nI 1) V) _ = _
    rw [s1]
    rfl
end
