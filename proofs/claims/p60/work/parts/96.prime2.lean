/-! THE PURE PART, primes: how a witness is read. -/
section
theorem pX_c (x : Int32) : (x < 0 ∧ x.toNatClampNeg = 0) ∨ (x.toNatClampNeg < 2 ^ 31 ∧ x = nI x.toNatClampNeg) := by
  by_cases h : x < 0
  · refine Or.inl ⟨h, ?_⟩
    have := i32lt.mp h
    rw [show (0 : Int32).toInt = 0 from rfl] at this
    show x.toInt.toNat = 0
    omega
  · obtain ⟨j, j1, j2⟩ := nI_of h
    refine Or.inr ?_
    rw [j2, nI_clamp j1]
    exact ⟨j1, rfl⟩
theorem pX_le {x : Int32} {b : Nat} (hb : b < 2 ^ 31) : x ≤ nI b ↔ x.toNatClampNeg ≤ b := by
  rcases pX_c x with ⟨h, e⟩ | ⟨h, e⟩
  · rw [e]
    refine ⟨fun _ => Nat.zero_le _, fun _ => i32le.mpr ?_⟩
    have := i32lt.mp h
    rw [show (0 : Int32).toInt = 0 from rfl] at this
    rw [nI_toInt hb]
    omega
  · generalize x.toNatClampNeg = j at *
    rw [e, nI_leI h hb]
theorem pX_lt {x : Int32} {b : Nat} (h0 : 0 < b) (hb : b < 2 ^ 31) : x < nI b ↔ x.toNatClampNeg < b := by
  rcases pX_c x with ⟨h, e⟩ | ⟨h, e⟩
  · rw [e]
    refine ⟨fun _ => h0, fun _ => i32lt.mpr ?_⟩
    have := i32lt.mp h
    rw [show (0 : Int32).toInt = 0 from rfl] at this
    rw [nI_toInt hb]
    omega
  · generalize x.toNatClampNeg = j at *
    rw [e, nI_ltI h hb]
theorem pX_n {x : Int32} (h : 0 < x.toNatClampNeg) : x.toNatClampNeg < 2 ^ 31 ∧ x = nI x.toNatClampNeg := by
  rcases pX_c x with ⟨_, e⟩ | h2
  · omega
  · exact h2
def rdL (rc : Nat → Option Nat) (xs : List Int32) (w : Bool) (p a : Nat) : Nat → Nat → Nat → Nat → Option Nat
  | 0, place, _, rest => if rest = 1 then some place else none
  | k + 1, place, ahead, rest => if rest = 1 then some place else if xs.length ≤ place then none else if pX xs place ≤ ahead then none else if rest % pX xs place ≠ 0 then none else if w = true ∧ pw a ((p - 1) / pX xs place) p = 1 then none else match rc place with
    | none => none
    | some pl => rdL rc xs w p a k pl (pX xs place) (wod rest (pX xs place))
/-- the place behind what is read from first on -/
def rdP (xs : List Int32) (w : Bool) : Nat → Nat → Option Nat
  | 0, _ => none
  | j + 1, first => if xs.length ≤ first then none else if pX xs first < 2 then none else if 40 < 48 - (j + 1) then none else if pX xs first = 2 then some (first + 1) else if pX xs (first + 1) < 1 then none else if pX xs first ≤ pX xs (first + 1) then none else if w = true ∧ pw (pX xs (first + 1)) (pX xs first - 1) (pX xs first) ≠ 1 then none else rdL (rdP xs w j) xs w (pX xs first) (pX xs (first + 1)) 40 (first + 2) 1 (pX xs first - 1)
def oI : Option Nat → Int32
  | none => -1
  | some n => nI n
theorem rdL_le {rc : Nat → Option Nat} {xs : List Int32} {w : Bool} {p a : Nat} (hrc : ∀ f q, rc f = some q → q ≤ xs.length) : ∀ k place ahead rest q, place ≤ xs.length → rdL rc xs w p a k place ahead rest = some q → q ≤ xs.length
  | 0, place, ahead, rest, q, hp, h => by
    rw [rdL] at h
    by_cases z : rest = 1
    · rw [if_pos z] at h
      cases h
      exact hp
    · rw [if_neg z] at h
      cases h
  | k + 1, place, ahead, rest, q, hp, h => by
    rw [rdL] at h
    by_cases z : rest = 1
    · rw [if_pos z] at h
      cases h
      exact hp
    · rw [if_neg z] at h
      by_cases z2 : xs.length ≤ place
      · rw [if_pos z2] at h
        cases h
      · rw [if_neg z2] at h
        by_cases z3 : pX xs place ≤ ahead
        · rw [if_pos z3] at h
          cases h
        · rw [if_neg z3] at h
          by_cases z4 : rest % pX xs place ≠ 0
          · rw [if_pos z4] at h
            cases h
          · rw [if_neg z4] at h
            by_cases z5 : w = true ∧ pw a ((p - 1) / pX xs place) p = 1
            · rw [if_pos z5] at h
              cases h
            · rw [if_neg z5] at h
              cases e : rc place with
              | none =>
                rw [e] at h
                cases h
              | some pl =>
                rw [e] at h
                exact rdL_le hrc k pl _ _ q (hrc _ _ e) h
theorem pX_out {xs : List Int32} {i : Nat} (h : xs.length ≤ i) : pX xs i = 0 := by
  unfold pX
  rw [getD_out h]
  rfl
theorem rdP_le {xs : List Int32} {w : Bool} : ∀ j first q, rdP xs w j first = some q → q ≤ xs.length
  | 0, first, q, h => by
    rw [rdP] at h
    cases h
  | j + 1, first, q, h => by
    rw [rdP] at h
    by_cases z : xs.length ≤ first
    · rw [if_pos z] at h
      cases h
    · rw [if_neg z] at h
      by_cases z2 : pX xs first < 2
      · rw [if_pos z2] at h
        cases h
      · rw [if_neg z2] at h
        by_cases z3 : 40 < 48 - (j + 1)
        · rw [if_pos z3] at h
          cases h
        · rw [if_neg z3] at h
          by_cases z4 : pX xs first = 2
          · rw [if_pos z4] at h
            cases h
            omega
          · rw [if_neg z4] at h
            by_cases z5 : pX xs (first + 1) < 1
            · rw [if_pos z5] at h
              cases h
            · rw [if_neg z5] at h
              by_cases z6 : pX xs first ≤ pX xs (first + 1)
              · rw [if_pos z6] at h
                cases h
              · rw [if_neg z6] at h
                by_cases z7 : w = true ∧ pw (pX xs (first + 1)) (pX xs first - 1) (pX xs first) ≠ 1
                · rw [if_pos z7] at h
                  cases h
                · rw [if_neg z7] at h
                  have : ¬ xs.length ≤ first + 1 := fun y => by
                    rw [pX_out y] at z5
                    omega
                  exact rdL_le (fun f q hf => rdP_le j f q hf) 40 _ _ _ q (by omega) h
def wI (w : Bool) : Int32 := if w = true then 1 else 0
theorem T_rdL {F r p a : Nat} {dI : Int32} {w : Bool} {Ln : Nat → Nat} {xs : List Int32} {V : mV} {rc : (Nat → Nat) → Nat → Int32 → Int32 → Int32 → mV → Option Int32} {rdf : Nat → Option Nat} (hF : 64 ≤ F) (hR : rowIs Ln V r xs) (hp : p < 2 ^ 31) (hp2 : 2 ≤ p) (ha : a < 2 ^ 31) (hrc : ∀ pl, pl < xs.length → rc Ln r (nI pl) (dI + 1) (wI w) V = some (oI (rdf pl))) (hle : ∀ f q, rdf f = some q → q ≤ xs.length) : ∀ k' k t place ahead rest, k < k' → k + t = 40 → place ≤ xs.length → ahead < 2 ^ 31 → rest < 2 ^ 31 → mTo (mX8_readPrime_go F rc k' 0 Ln r dI (wI w) (nI p) (nI a) (nI place) (nI ahead) (nI rest) (nI t) V) (fun v => v = oI (rdL rdf xs w p a k place ahead rest)) := by
  have n := hR.n
  intro k'
  induction k' with
  | zero => intro k t place ahead rest h; omega
  | succ k' ih =>
    intro k t place ahead rest h1 h2 h3 h4 h5
    rw [mX8_readPrime_go, if_pos rfl]
    unfold mX8_readPrime_b0
    cases k with
    | zero =>
      rw [rdL]
      refine mTo.le (a := 40) rfl rfl (by omega) (by omega) (fun _ => mTo.eqI (b := 1) rfl rfl (by omega) (by omega) (fun z => mTo.ret ?_) (fun z => mTo.ret ?_)) (fun z => by omega)
      · rw [if_pos z]
        rfl
      · rw [if_neg z]
        rfl
    | succ k =>
      rw [rdL]
      refine mTo.le (a := 40) rfl rfl (by omega) (by omega) (fun z => by omega) (fun _ => mTo.eqI (b := 1) rfl rfl (by omega) (by omega) (fun z => ?_) (fun z => mTo.le hR.1 rfl (by omega) (by omega) (fun y => ?_) (fun y => mTo.so (T_rAt hR (by omega)) ?_)))
      · rw [if_pos z, if_pos (show nI rest = 1 by rw [z]; rfl)]
        exact mTo.ret rfl
      · rw [if_neg z, if_pos y]
        refine mTo.eqI (b := 1) rfl rfl (by omega) (by omega) (fun q => absurd q z) (fun _ => mTo.ret rfl)
      · rw [if_neg z, if_neg (c := xs.length ≤ place) (by omega)]
        have ple : xs.getD place 0 ≤ nI ahead ↔ pX xs place ≤ ahead := pX_le h4
        refine mTo.ite (fun q => ?_) (fun q => ?_)
        · rw [if_pos (ple.mp q)]
          exact mTo.ret rfl
        · have gt : ¬ pX xs place ≤ ahead := fun u => q (ple.mpr u)
          rw [if_neg gt]
          obtain ⟨d31, de⟩ := pX_n (x := xs.getD place 0) (by have : ¬ (xs.getD place 0).toNatClampNeg ≤ ahead := gt; omega)
          have d31 : pX xs place < 2 ^ 31 := d31
          have de : xs.getD place 0 = nI (pX xs place) := de
          rw [de]
          have hrc1 := hrc place (by omega)
          have hle1 := hle place
          have wl : wod rest (pX xs place) < 2 ^ 31 := by
            have : ∀ k n, wdN (pX xs place) k n ≤ n := fun k => by
              induction k with
              | zero => exact fun n => Nat.le_refl _
              | succ k ih =>
                intro n
                rw [wdN]
                by_cases u1 : pX xs place ≤ 1
                · rw [if_pos u1]
                  exact Nat.le_refl _
                · rw [if_neg u1]
                  by_cases u2 : n ≤ 1
                  · rw [if_pos u2]
                    exact Nat.le_refl _
                  · rw [if_neg u2]
                    by_cases u3 : n % pX xs place = 0
                    · rw [if_pos u3]
                      exact Nat.le_trans (ih _) (Nat.div_le_self _ _)
                    · rw [if_neg u3]
                      exact Nat.le_refl _
            exact Nat.lt_of_le_of_lt (this 32 rest) h5
          generalize pX xs place = d at *
          have nx : mTo (mBN (rc Ln r (nI place) (dI + (1 : Int32)) (wI w) V) fun v16 => (if 0 ≤ v16 then (mBN (mX8_withoutDivisor F (nI rest) (nI d)) fun v22 => (mLt (nI t + (1 : Int32)) fun x27 => (mX8_readPrime_go F rc k' 0 Ln r dI (wI w) (nI p) (nI a) (v16) (nI d) (v22) (x27) V))) else some ((-1 : Int32)))) (fun v => v = oI (match rdf place with
              | none => none
              | some pl => rdL rdf xs w p a k pl d (wod rest d))) := by
            refine mTo.so hrc1 ?_
            cases e : rdf place with
            | none =>
              rw [if_neg (show ¬ (0 : Int32) ≤ oI none by decide)]
              exact mTo.ret rfl
            | some pl =>
              have pb := hle1 pl e
              rw [if_pos (show (0 : Int32) ≤ oI (some pl) from nI_pos' (by omega))]
              refine mTo.so (T_wd hF h5 d31) (mTo.lt ?_)
              rw [nI_1]
              exact ih k (t + 1) pl d (wod rest d) (by omega) (by omega) pb d31 wl
          have md : rest % d < d := Nat.mod_lt _ (by omega)
          refine mTo.eqI (b := 0) rfl rfl d31 (by omega) (fun u => by omega) (fun _ => mTo.eqI (b := 0) (pk_rem h5 (by omega) d31) rfl (by omega) (by omega) (fun u => ?_) (fun u => ?_))
          · rw [if_neg (c := rest % d ≠ 0) (fun y => y u)]
            cases w with
            | false =>
              rw [if_pos (show wI false = 0 from rfl), if_neg (c := false = true ∧ pw a ((p - 1) / d) p = 1) (fun y => absurd y.1 (by decide))]
              exact nx
            | true =>
              have pl1 := Nat.div_le_self (p - 1) d
              have p1 : nI p - 1 = nI (p - 1) := by
                obtain ⟨x, rfl⟩ : ∃ x, p = x + 1 := ⟨p - 1, by omega⟩
                rw [nI_pred, Nat.add_sub_cancel]
              rw [if_neg (show ¬ wI true = 0 by decide), p1]
              have lw : pw a ((p - 1) / d) p < p := pwN_lt (by omega) _ _ _ _ (Nat.mod_lt _ (by omega))
              refine mTo.eqI (b := 0) rfl rfl d31 (by omega) (fun u => by omega) (fun _ => ?_)
              rw [pk_div (by omega) (by omega) d31]
              refine mTo.so (T_pw hF (by omega) hp ha (by omega)) (mTo.eqI (b := 1) rfl rfl (by omega) (by omega) (fun y => ?_) (fun y => ?_))
              · rw [if_pos (c := true = true ∧ pw a ((p - 1) / d) p = 1) ⟨rfl, y⟩]
                exact mTo.ret rfl
              · rw [if_neg (c := true = true ∧ pw a ((p - 1) / d) p = 1) (fun y2 => y y2.2)]
                exact nx
          · rw [if_pos (c := rest % d ≠ 0) u]
            exact mTo.ret rfl
theorem T_readPrime {F r : Nat} {w : Bool} {Ln : Nat → Nat} {xs : List Int32} {V : mV} (hF : 64 ≤ F) (hR : rowIs Ln V r xs) : ∀ j dp first, dp + j = 48 → first ≤ xs.length → 0 < j → mX8_readPrime F j Ln r (nI first) (nI dp) (wI w) V = some (oI (rdP xs w j first)) := by
  have n := hR.n
  intro j
  induction j with
  | zero => intro dp first _ _ h; omega
  | succ j ih =>
    intro dp first hd hf _
    have main : mTo (mX8_readPrime F (j + 1) Ln r (nI first) (nI dp) (wI w) V) (fun v => v = oI (rdP xs w (j + 1) first)) := by
      rw [mX8_readPrime, rdP]
      unfold mX8_readPrime_a mX8_readPrime_s
      refine mTo.so (T_rAt hR (by omega)) (mTo.le hR.1 rfl (by omega) (by omega) (fun z => ?_) (fun z => ?_))
      · rw [if_pos z]
        exact mTo.ret rfl
      · rw [if_neg (c := xs.length ≤ first) (by omega)]
        have l2 : xs.getD first 0 < (2 : Int32) ↔ pX xs first < 2 := pX_lt (b := 2) (by omega) (by omega)
        refine mTo.ite (fun y => ?_) (fun y => ?_)
        · rw [if_pos (l2.mp y)]
          exact mTo.ret rfl
        · have y2 : ¬ pX xs first < 2 := fun u => y (l2.mpr u)
          rw [if_neg y2]
          obtain ⟨p31, pe⟩ := pX_n (x := xs.getD first 0) (by have : ¬ (xs.getD first 0).toNatClampNeg < 2 := y2; omega)
          have p31 : pX xs first < 2 ^ 31 := p31
          have pe : xs.getD first 0 = nI (pX xs first) := pe
          rw [pe]
          generalize pX xs first = p at *
          refine mTo.le (b := 40) rfl rfl (by omega) (by omega) (fun u => ?_) (fun u => ?_)
          · rw [if_neg (c := 40 < 48 - (j + 1)) (by omega)]
            refine mTo.eqI (b := 2) rfl rfl p31 (by omega) (fun v => ?_) (fun v => ?_)
            · rw [if_pos v, nI_1]
              exact mTo.ret rfl
            · rw [if_neg v, nI_1]
              refine mTo.so (T_rAt hR (by omega)) ?_
              have l1 : xs.getD (first + 1) 0 < (1 : Int32) ↔ pX xs (first + 1) < 1 := pX_lt (b := 1) (by omega) (by omega)
              refine mTo.ite (fun q => ?_) (fun q => ?_)
              · rw [if_pos (l1.mp q)]
                exact mTo.ret rfl
              · have q2 : ¬ pX xs (first + 1) < 1 := fun u => q (l1.mpr u)
                rw [if_neg q2]
                have inl : first + 1 < xs.length := Nat.lt_of_not_le fun u => by
                  rw [pX_out u] at q2
                  omega
                obtain ⟨a31, ae⟩ := pX_n (x := xs.getD (first + 1) 0) (by have : ¬ (xs.getD (first + 1) 0).toNatClampNeg < 1 := q2; omega)
                have a31 : pX xs (first + 1) < 2 ^ 31 := a31
                have ae : xs.getD (first + 1) 0 = nI (pX xs (first + 1)) := ae
                rw [ae]
                generalize pX xs (first + 1) = a at *
                have p1 : nI p - 1 = nI (p - 1) := by
                  obtain ⟨x, rfl⟩ : ∃ x, p = x + 1 := ⟨p - 1, by omega⟩
                  rw [nI_pred, Nat.add_sub_cancel]
                have f2 : nI first + 2 = nI (first + 2) := nI_add first 2
                rw [p1, f2]
                have go : mTo (mX8_readPrime_go F (mX8_readPrime F j) F 0 Ln r (nI dp) (wI w) (nI p) (nI a) (nI (first + 2)) ((1 : Int32)) (nI (p - 1)) ((0 : Int32)) V) (fun v => v = oI (rdL (rdP xs w j) xs w p a 40 (first + 2) 1 (p - 1))) := by
                  refine T_rdL (F := F) hF hR p31 (by omega) a31 (fun pl hpl => ?_) (fun f q hq => rdP_le j f q hq) F 40 0 (first + 2) 1 (p - 1) (by omega) rfl (by omega) (by omega) (by omega)
                  rw [nI_1]
                  exact ih (dp + 1) pl (by omega) (by omega) (by omega)
                refine mTo.le rfl rfl p31 a31 (fun t => ?_) (fun t => ?_)
                · rw [if_pos t]
                  exact mTo.ret rfl
                · rw [if_neg (c := p ≤ a) (by omega)]
                  cases w with
                  | false =>
                    rw [if_pos (show wI false = 0 from rfl), if_neg (c := false = true ∧ pw a (p - 1) p ≠ 1) (fun y => absurd y.1 (by decide))]
                    exact go
                  | true =>
                    rw [if_neg (show ¬ wI true = 0 by decide)]
                    have lw : pw a (p - 1) p < p := pwN_lt (by omega) _ _ _ _ (Nat.mod_lt _ (by omega))
                    refine mTo.so (T_pw hF (by omega) p31 a31 (by omega)) (mTo.eqI (b := 1) rfl rfl (by omega) (by omega) (fun y => ?_) (fun y => ?_))
                    · rw [if_neg (c := true = true ∧ pw a (p - 1) p ≠ 1) (fun y2 => y2.2 y)]
                      exact go
                    · rw [if_pos (c := true = true ∧ pw a (p - 1) p ≠ 1) ⟨rfl, y⟩]
                      exact mTo.ret rfl
          · rw [if_pos (c := 40 < 48 - (j + 1)) (by omega)]
            exact mTo.ret rfl
    obtain ⟨v, e, q⟩ := main
    rw [e, q]
end
