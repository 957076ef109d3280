/-! THE PURE PART, clauses: the way through the tree; the judges; weak duality. -/
section
def dvS (V : mV) : Prop := ∃ cc sc, cc ≤ 128 ∧ sc ≤ 8 ∧ V.fI 5 2 = nI cc ∧ V.fI 5 3 = nI sc
def keep5 (V V1 : mV) : Prop := V1.fI 5 4 = V.fI 5 4 ∧ V1.fI 5 5 = V.fI 5 5 ∧ V1.fI 5 6 = V.fI 5 6
theorem T_derive {F : Nat} {x : Int32} {V : mV} (h : dvS V) : mTo (mX1_derive F x V) (fun p => dvS p.2 ∧ keep5 V p.2) := by
  obtain ⟨cc, sc, h1, h2, h3, h4⟩ := h
  have f1 : ∀ {V : mV} {a : Nat} {x y : Int32} {i j : Nat}, (mI V a x y).fI i j = V.fI i j := rfl
  unfold mX1_derive
  refine mTo.le (a := 128) rfl h3 (by omega) (by omega) (fun a => mTo.le (a := 8) rfl h4 (by omega) (by omega) (fun b => mTo.ret ⟨⟨cc, sc, h1, h2, h3, h4⟩, rfl, rfl, rfl⟩) (fun b => ?_)) (fun a => ?_)
  · rw [h4]
    refine mTo.ix rfl (by omega) (by omega) (mTo.lt (mTo.lt (mTo.ret ⟨⟨cc, sc + 1, h1, by omega, ?_, ?_⟩, ?_, ?_, ?_⟩)))
    · rw [mF_no (Or.inr (by decide)), f1, h3]
    · rw [mF_at, f1, h4, nI_1]
    · rw [mF_no (Or.inr (by decide)), f1]
    · rw [mF_no (Or.inr (by decide)), f1]
    · rw [mF_no (Or.inr (by decide)), f1]
  · rw [h3]
    refine mTo.ix rfl (by omega) (by omega) (mTo.lt (mTo.lt ?_))
    have e2 : (mF (mI V 53 (nI cc) x) 5 2 ((mI V 53 (nI cc) x).fI 5 2 + 1)).fI 5 2 = nI (cc + 1) := by rw [mF_at, f1, h3, nI_1]
    have e3 : (mF (mI V 53 (nI cc) x) 5 2 ((mI V 53 (nI cc) x).fI 5 2 + 1)).fI 5 3 = nI sc := by rw [mF_no (Or.inr (by decide)), f1, h4]
    have e4 : keep5 V (mF (mI V 53 (nI cc) x) 5 2 ((mI V 53 (nI cc) x).fI 5 2 + 1)) := ⟨by rw [mF_no (Or.inr (by decide)), f1], by rw [mF_no (Or.inr (by decide)), f1], by rw [mF_no (Or.inr (by decide)), f1]⟩
    generalize mF (mI V 53 (nI cc) x) 5 2 ((mI V 53 (nI cc) x).fI 5 2 + 1) = V8 at *
    refine mTo.le (a := 8) rfl e3 (by omega) (by omega) (fun b => mTo.ret ⟨⟨cc + 1, sc, by omega, h2, e2, e3⟩, e4⟩) (fun b => ?_)
    rw [e3]
    refine mTo.ix rfl (by omega) (by omega) (mTo.lt (mTo.lt (mTo.ret ⟨⟨cc + 1, sc + 1, by omega, by omega, ?_, ?_⟩, ?_, ?_, ?_⟩)))
    · rw [mF_no (Or.inr (by decide)), f1, e2]
    · rw [mF_at, f1, e3, nI_1]
    · rw [mF_no (Or.inr (by decide)), f1, e4.1]
    · rw [mF_no (Or.inr (by decide)), f1, e4.2.1]
    · rw [mF_no (Or.inr (by decide)), f1, e4.2.2]
theorem T_deriveAt {F : Nat} {x : Int32} {V : mV} (h : dvS V) : mTo (mX1_deriveAt F x V) (fun p => dvS p.2 ∧ keep5 V p.2) := by
  obtain ⟨cc, sc, h1, h2, h3, h4⟩ := h
  unfold mX1_deriveAt
  refine mTo.le (a := 2) rfl h4 (by omega) (by omega) (fun a => ?_) (fun a => mTo.ret ⟨⟨cc, sc, h1, h2, h3, h4⟩, rfl, rfl, rfl⟩)
  obtain ⟨t, rfl⟩ : ∃ t, sc = t + 2 := ⟨sc - 2, by omega⟩
  have m2 : V.fI 5 3 - 2 = nI t := by rw [h4, nI_sub2]
  have m1 : V.fI 5 3 - 1 = nI (t + 1) := by rw [h4, nI_pred]
  rw [m2, m1]
  refine mTo.ix rfl (by omega) (by omega) (mTo.lt (mTo.ix rfl (by omega) (by omega) (mTo.lt (mTo.lt (mTo.lt (mTo.lt ?_))))))
  have dv : dvS (mF V 5 3 (nI t)) := ⟨cc, t, h1, by omega, by rw [mF_no (Or.inr (by decide))]; exact h3, mF_at⟩
  have kp : ∀ {V1 : mV}, keep5 (mF V 5 3 (nI t)) V1 → keep5 V V1 := fun k => ⟨by rw [k.1, mF_no (Or.inr (by decide))], by rw [k.2.1, mF_no (Or.inr (by decide))], by rw [k.2.2, mF_no (Or.inr (by decide))]⟩
  exact mTo.ite (fun _ => mTo.W (T_derive dv) (fun a V1 _ q => mTo.ret ⟨q.1, kp q.2⟩)) (fun _ => mTo.ite (fun _ => mTo.W (T_derive dv) (fun a V1 _ q => mTo.ret ⟨q.1, kp q.2⟩)) (fun _ => mTo.W (T_derive dv) (fun a V1 _ q => mTo.ret ⟨q.1, kp q.2⟩)))
theorem T_goBack_go {F : Nat} : ∀ k k' n (V : mV), k < k' → 0 < n → n < 128 → (∀ j, j ≤ k → n / 2 ^ k ≤ 1) → clS V n → V.fI 5 6 = 0 → dvS V → mTo (mX1_goBack_go F k' 0 V) (fun p => dvS p.2 ∧ ((nxF (k + 1) n = 0 ∧ p.2.fI 5 6 = 1) ∨ (nxF (k + 1) n ≠ 0 ∧ clS p.2 (nxF (k + 1) n) ∧ p.2.fI 5 6 = 0))) := by
  intro k
  induction k with
  | zero =>
    intro k' n V h1 h0 h2 h3 hC h6 hd
    obtain ⟨x, rfl⟩ : ∃ x, k' = x + 1 := ⟨k' - 1, by omega⟩
    have n1 : n = 1 := by have := h3 0 (Nat.le_refl _); rw [Nat.pow_zero, Nat.div_one] at this; omega
    subst n1
    rw [mX1_goBack_go, if_pos rfl]
    unfold mX1_goBack_b0
    have d0 : V.fI 5 4 = nI 0 := hC.1
    rw [d0, if_pos (by decide), if_pos (by decide)]
    refine mTo.lt (mTo.ret ⟨?_, Or.inl ⟨rfl, mF_at⟩⟩)
    obtain ⟨cc, sc, a, b, c, d⟩ := hd
    exact ⟨cc, sc, a, b, by rw [mF_no (Or.inr (by decide))]; exact c, by rw [mF_no (Or.inr (by decide))]; exact d⟩
  | succ k ih =>
    intro k' n V h1 h0 h2 h3 hC h6 hd
    obtain ⟨x, rfl⟩ : ∃ x, k' = x + 1 := ⟨k' - 1, by omega⟩
    obtain ⟨l1, l2, l3, l4⟩ := nd_lt n h2 h0
    have l6 : on n < 2 ^ 6 := Nat.lt_of_lt_of_le l2 (Nat.pow_le_pow_right (by decide) l1)
    rw [mX1_goBack_go, if_pos rfl]
    unfold mX1_goBack_b0
    rw [nxF]
    obtain ⟨cc, sc, a, b, c, d⟩ := hd
    by_cases ev : n % 2 = 0
    · obtain ⟨e1, e2, e3, e4⟩ := nd_ev n h2 h0 ev
      obtain ⟨t, ht⟩ : ∃ t, dp n = t + 1 := ⟨dp n - 1, by omega⟩
      have h4 : V.fI 5 4 = nI (t + 1) := by rw [hC.1, ht]
      rw [ht, Nat.add_sub_cancel] at e2 e4
      rw [if_pos ev, h4, nI_pred, if_neg (nI_nle (by omega) (by omega))]
      refine mTo.so (by rw [hC.2]; exact nb_hasF (by omega) (by omega) e2) ?_
      rw [if_pos rfl, if_neg (nI_ne0 (by omega) (by omega)), hC.2, nb_one (by omega), nb_or, ← e4]
      refine mTo.lt (mTo.ret ⟨⟨cc, sc, a, b, by rw [mF_no (Or.inr (by decide))]; exact c, by rw [mF_no (Or.inr (by decide))]; exact d⟩, Or.inr ⟨Nat.succ_ne_zero n, ⟨?_, mF_at⟩, ?_⟩⟩)
      · rw [mF_no (Or.inr (by decide)), hC.1, e3]
      · rw [mF_no (Or.inr (by decide)), h6]
    · rw [if_neg ev]
      by_cases n1 : n = 1
      · subst n1
        have d0 : V.fI 5 4 = nI 0 := hC.1
        rw [d0, if_pos (by decide), if_pos (by decide), if_pos rfl]
        exact mTo.lt (mTo.ret ⟨⟨cc, sc, a, b, by rw [mF_no (Or.inr (by decide))]; exact c, by rw [mF_no (Or.inr (by decide))]; exact d⟩, Or.inl ⟨rfl, mF_at⟩⟩)
      · rw [if_neg n1]
        obtain ⟨e1, e2, e3, e4⟩ := nd_od n h2 (by omega) (by omega)
        obtain ⟨t, ht⟩ : ∃ t, dp n = t + 1 := ⟨dp n - 1, by omega⟩
        have h4 : V.fI 5 4 = nI (t + 1) := by rw [hC.1, ht]
        rw [ht, Nat.add_sub_cancel] at e2 e3 e4
        rw [h4, nI_pred, if_neg (nI_nle (by omega) (by omega))]
        refine mTo.so (by rw [hC.2]; exact nb_hasT (by omega) (by omega) e2) ?_
        rw [if_neg (by decide)]
        refine mTo.lt (mTo.lt ?_)
        have g4 : (mF V 5 4 (nI t)).fI 5 4 = nI t := mF_at
        have g5 : (mF V 5 4 (nI t)).fI 5 5 = nI (on n) := by rw [mF_no (Or.inr (by decide)), hC.2]
        rw [g4, g5, nb_one (by omega), nb_not (by omega), ← e4]
        have q4 : (mF (mF V 5 4 (nI t)) 5 5 (nI (on (n / 2)))).fI 5 4 = nI (dp (n / 2)) := by rw [mF_no (Or.inr (by decide)), g4, e3]
        have q5 : (mF (mF V 5 4 (nI t)) 5 5 (nI (on (n / 2)))).fI 5 5 = nI (on (n / 2)) := mF_at
        have q6 : (mF (mF V 5 4 (nI t)) 5 5 (nI (on (n / 2)))).fI 5 6 = 0 := by rw [mF_no (Or.inr (by decide)), mF_no (Or.inr (by decide)), h6]
        refine mTo.W (T_deriveAt ⟨cc, sc, a, b, by rw [mF_no (Or.inr (by decide)), mF_no (Or.inr (by decide))]; exact c, by rw [mF_no (Or.inr (by decide)), mF_no (Or.inr (by decide))]; exact d⟩) (fun w V1 _ q => ?_)
        obtain ⟨r1, r2, r3, r4⟩ := q
        refine ih x (n / 2) V1 (by omega) (by omega) (by omega) (fun j hj => ?_) ⟨by rw [show V1.fI 5 4 = _ from r2, q4], by rw [show V1.fI 5 5 = _ from r3, q5]⟩ (by rw [show V1.fI 5 6 = _ from r4, q6]) r1
        have := h3 0 (Nat.zero_le _)
        rw [Nat.div_div_eq_div_mul, Nat.mul_comm, ← Nat.pow_succ]
        exact this
theorem T_goBack {F n : Nat} {V : mV} (hF : 64 ≤ F) (h0 : 0 < n) (h2 : n < 128) (hC : clS V n) (h6 : V.fI 5 6 = 0) (hd : dvS V) : mTo (mX1_goBack F V) (fun p => (dvS p.2 ∧ ((nx8 n = 0 ∧ p.2.fI 5 6 = 1) ∨ (nx8 n ≠ 0 ∧ clS p.2 (nx8 n) ∧ p.2.fI 5 6 = 0))) ∧ mAv wX1_goBack V p.2) := by
  have main : mTo (mX1_goBack F V) (fun p => dvS p.2 ∧ ((nx8 n = 0 ∧ p.2.fI 5 6 = 1) ∨ (nx8 n ≠ 0 ∧ clS p.2 (nx8 n) ∧ p.2.fI 5 6 = 0))) := by
    unfold mX1_goBack mX1_goBack_s
    refine T_goBack_go 7 F n V (by omega) h0 h2 (fun j _ => ?_) hC h6 hd
    have : n / 2 ^ 7 = 0 := Nat.div_eq_of_lt (by omega)
    omega
  obtain ⟨p, e, q⟩ := main
  exact ⟨p, e, q, NX1_goBack (v := p.1) e⟩
/-- a leaf: the item does not hold there, or too many are 1 -/
def lfOK (d : Nat → Int32) (b n : Nat) (v : Int32) : Bool := if v < 0 then decide (b < pop (on n)) else bk d (dp n) (on n) v.toNatClampNeg
def trRun (d : Nat → Int32) (s b : Nat) (xs : List Int32) : Nat → Nat → Nat → Nat
  | 0, _, _ => 3
  | k + 1, pl, n => if n = 0 then (if pl = xs.length then 0 else 3) else if pl < xs.length ∧ lfOK d b n (xs.getD pl 0) = true then trRun d s b xs k (pl + 1) (nx8 n) else if dp n < s then trRun d s b xs k pl (2 * n) else 2
def rowM1 (m : Nat) (xs : List Int32) : Prop := ∀ i, i < xs.length → xs.getD i 0 = -1 ∨ ∃ j, j < m ∧ xs.getD i 0 = nI j
def treeOK (d : Nat → Int32) (m s b : Nat) (xs : List Int32) : Prop := rowM1 m xs ∧ trRun d s b xs 129 0 1 = 0
def trB (xs : List Int32) : Nat → Nat
  | 0 => 0
  | j + 1 => trB xs j ||| (pX xs j * 2 ^ j)
def truOK (d : Nat → Int32) (m s b : Nat) (xs : List Int32) : Prop := (xs.length = s ∧ inRow xs 2) ∧ pop (trB xs s) ≤ b ∧ ∀ i, i < m → bk d s (trB xs s) i = false
theorem i32m1 {x : Int32} (h : ¬ x < -1) : x = -1 ∨ ¬ x < 0 := by
  have h1 : ¬ x.toInt < -1 := fun z => h (i32lt.mpr z)
  rcases Int.lt_or_le x.toInt 0 with z | z
  · left
    apply Int32.toInt_inj.mp
    show x.toInt = -1
    omega
  · right
    intro y
    have : x.toInt < 0 := i32lt.mp y
    omega
theorem rowM1_iff {m : Nat} {xs : List Int32} (hm : m < 2 ^ 20) : rowM1 m xs ↔ ∀ i, 0 ≤ i → i < xs.length → ¬ xs.getD i 0 < -1 ∧ xs.getD i 0 ≤ nI m - 1 := by
  constructor
  · intro h i _ hi
    rcases h i hi with z | ⟨j, j1, j2⟩
    · rw [z]
      refine ⟨by decide, ?_⟩
      cases m with
      | zero => decide
      | succ m =>
        rw [nI_pred]
        exact i32le.mpr (by rw [nI_toInt (by omega)]; have : (-1 : Int32).toInt = -1 := by decide
                            omega)
    · rw [j2]
      obtain ⟨t, rfl⟩ : ∃ t, m = t + 1 := ⟨m - 1, by omega⟩
      rw [nI_pred, nI_leI (by omega) (by omega)]
      refine ⟨fun z => ?_, by omega⟩
      have := i32lt.mp z
      rw [nI_toInt (by omega), show (-1 : Int32).toInt = -1 by decide] at this
      omega
  · intro h i hi
    obtain ⟨h1, h2⟩ := h i (Nat.zero_le _) hi
    rcases i32m1 h1 with z | z
    · exact Or.inl z
    · right
      obtain ⟨j, j1, j2⟩ := nI_of z
      rw [j2] at h2
      cases m with
      | zero =>
        have := i32le.mp h2
        rw [nI_toInt j1, show (nI 0 - 1).toInt = -1 by decide] at this
        omega
      | succ m =>
        rw [nI_pred, nI_leI j1 (by omega)] at h2
        exact ⟨j, by omega, j2⟩
theorem dv_mv {V V1 : mV} {e s m : Nat} {b : Int32} {d : Nat → Int32} (hq : enQ V e s m b d) (he : 256 ≤ e) (h : mAv wX1_goBack V V1) : enQ V1 e s m b d := hq.mv h (by unfold wX1_goBack; omega) (by unfold wX1_goBack; omega)
theorem T_judgeTree {F e r s m b : Nat} {Ln : Nat → Nat} {d : Nat → Int32} {xs : List Int32} {V : mV} (hF : 2 ^ 12 ≤ F) (he : 256 ≤ e) (hr : 256 ≤ r) (hs : s ≤ 6) (h0 : 0 < s) (hm : m ≤ 12) (hb : b < 2 ^ 20) (hd : qS d m s) (hq : enQ V e s m (nI b) d) (hR : rowIs Ln V r xs) : mTo (mX1_judgeTree F Ln e r V) (fun p => p.1 = 0 ↔ treeOK d m s b xs) := by
  have n10 := hR.n
  have p6 : (2 : Nat) ^ (s + 1) ≤ 2 ^ 7 := Nat.pow_le_pow_right (by decide) (by omega)
  have go : ∀ t k' pl n (V : mV), t < k' → t ≤ 128 → pl ≤ xs.length → rowM1 m xs → (n = 0 → V.fI 5 6 = 1) → (0 < n → n < 2 ^ (s + 1) ∧ rem s 128 n ≤ t ∧ clS V n ∧ V.fI 5 6 = 0 ∧ dvS V) → enQ V e s m (nI b) d → rowIs Ln V r xs → mTo (mX1_judgeTree_go F k' 0 Ln e r (nI pl) (nI (128 - t)) V) (fun p => p.1 = 0 ↔ trRun d s b xs (t + 1) pl n = 0) := by
    intro t
    induction t with
    | zero =>
      intro k' pl n V h1 h2 h3 hM hz hn hq hR
      obtain ⟨x, rfl⟩ : ∃ x, k' = x + 1 := ⟨k' - 1, by omega⟩
      have n0 : n = 0 := by
        rcases Nat.eq_zero_or_pos n with z | z
        · exact z
        · obtain ⟨a1, a2, _⟩ := hn z
          have := nd_rem3 s (by omega) n (by omega) a1 z
          omega
      subst n0
      rw [mX1_judgeTree_go, if_pos rfl]
      unfold mX1_judgeTree_b0
      rw [trRun, if_pos rfl, if_pos (by decide)]
      refine mTo.eqI rfl hR.1 (by omega) (by omega) (fun z => mTo.ret ?_) (fun z => mTo.ret ?_)
      · rw [if_pos z]
        exact ⟨fun _ => rfl, fun _ => rfl⟩
      · rw [if_neg z]
        exact ⟨fun y => absurd (show (3 : Int32) = 0 from y) (by decide), fun y => absurd y (by decide)⟩
    | succ t ih =>
      intro k' pl n V h1 h2 h3 hM hz hn hq hR
      obtain ⟨x, rfl⟩ : ∃ x, k' = x + 1 := ⟨k' - 1, by omega⟩
      rw [mX1_judgeTree_go, if_pos rfl]
      unfold mX1_judgeTree_b0
      rw [trRun]
      refine mTo.le (a := 128) rfl rfl (by omega) (by omega) (fun z => by omega) (fun _ => ?_)
      by_cases n0 : n = 0
      · rw [if_pos n0, hz n0, if_neg (by decide)]
        refine mTo.eqI rfl hR.1 (by omega) (by omega) (fun z => mTo.ret ?_) (fun z => mTo.ret ?_)
        · rw [if_pos z]
          exact ⟨fun _ => rfl, fun _ => rfl⟩
        · rw [if_neg z]
          exact ⟨fun y => absurd (show (3 : Int32) = 0 from y) (by decide), fun y => absurd y (by decide)⟩
      · obtain ⟨a1, a2, a3, a4, a5⟩ := hn (by omega)
        obtain ⟨l1, l2, l3, l4⟩ := nd_lt n (by omega) (by omega)
        have l6 : on n < 2 ^ 6 := Nat.lt_of_lt_of_le l2 (Nat.pow_le_pow_right (by decide) l1)
        rw [if_neg n0, a4, if_pos rfl]
        have e128 : 128 - (t + 1) + 1 = 128 - t := by omega
        -- deeper
        have deep : mTo (if (V.fI e 1) ≤ (V.fI 5 4) then some ((2 : Int32), V) else (mLt (mF V 5 4 (((V.fI 5 4) + (1 : Int32)))) fun V7 => (mLt (nI (128 - (t + 1)) + (1 : Int32)) fun x8 => (mX1_judgeTree_go F x 0 Ln e r (nI pl) (x8) V7)))) (fun p => p.1 = 0 ↔ (if dp n < s then trRun d s b xs (t + 1) pl (2 * n) else 2) = 0) := by
          refine mTo.le hq.1 a3.1 (by omega) (by omega) (fun z => mTo.ret ?_) (fun z => mTo.lt (mTo.lt ?_))
          · rw [if_neg (by omega)]
            exact ⟨fun y => absurd (show (2 : Int32) = 0 from y) (by decide), fun y => absurd y (by decide)⟩
          · rw [if_pos z, nI_1, e128, a3.1, nI_1]
            have s2 : (2 : Nat) ^ (dp n + 1) ≤ 2 ^ s := Nat.pow_le_pow_right (by decide) z
            have ps : (2 : Nat) ^ (s + 1) = 2 * 2 ^ s := by rw [Nat.pow_succ, Nat.mul_comm]
            obtain ⟨u1, u2⟩ := nd_dn n (by omega) (by omega)
            have u3 := nd_rem2 s (by omega) n (by omega) a1 (by omega) z
            obtain ⟨cc, sc, c1, c2, c3, c4⟩ := a5
            refine ih x pl (2 * n) _ (by omega) (by omega) h3 hM (fun y => by omega) (fun _ => ⟨by omega, by omega, ⟨by rw [mF_at, u1], by rw [mF_no (Or.inr (by decide)), a3.2, u2]⟩, by rw [mF_no (Or.inr (by decide)), a4], cc, sc, c1, c2, by rw [mF_no (Or.inr (by decide)), c3], by rw [mF_no (Or.inr (by decide)), c4]⟩) ?_ ?_
            · exact ⟨by rw [mF_no (Or.inl (by omega))]; exact hq.1, by rw [mF_no (Or.inl (by omega))]; exact hq.2.1, by rw [mF_no (Or.inl (by omega))]; exact hq.2.2.1, hq.2.2.2⟩
            · exact ⟨by rw [mF_no (Or.inl (by omega))]; exact hR.1, hR.2.1, hR.2.2.1, hR.2.2.2⟩
        refine mTo.le hR.1 rfl (by omega) (by omega) (fun z => ?_) (fun z => mTo.so (T_rAt hR (by omega)) ?_)
        · rw [if_neg (c := pl < xs.length ∧ lfOK d b n (xs.getD pl 0) = true) (fun y => by omega)]
          exact deep
        · have leaf : mTo (mX1_isLeaf F e (xs.getD pl 0) V) (fun w => (w = 0 ∨ w = 1) ∧ (w ≠ 0 ↔ lfOK d b n (xs.getD pl 0) = true)) := by
            unfold mX1_isLeaf lfOK
            have pn : pop (on n) ≤ 11 := cnt_n 11
            rcases hM pl z with y | ⟨j, j1, j2⟩
            · rw [y, if_pos (by decide), if_pos (by decide)]
              refine mTo.so (by rw [a3.2]; exact T_pop (by omega)) (mTo.le rfl hq.2.2.1 (by omega) (by omega) (fun q => mTo.ret ⟨Or.inl rfl, fun w => absurd rfl w, fun w => ?_⟩) (fun q => mTo.ret ⟨Or.inr rfl, fun _ => decide_eq_true q, fun _ => by decide⟩))
              have := of_decide_eq_true w
              omega
            · rw [j2, if_neg (nI_pos (by omega)), if_neg (nI_pos (by omega)), nI_clamp (by omega)]
              refine mTo.N (T_isBroken (by omega) hs hm hd hq a3.1 a3.2 l1 l6 j1) (fun w _ q => ?_)
              rw [if_neg (fun y => y q.1)]
              exact mTo.ret q
          refine mTo.N leaf (fun w _ q => mTo.tf q (fun y => ?_) (fun y => mTo.lt ?_))
          · rw [if_neg (c := pl < xs.length ∧ lfOK d b n (xs.getD pl 0) = true) (fun w => y w.2)]
            exact deep
          · rw [if_pos (c := pl < xs.length ∧ lfOK d b n (xs.getD pl 0) = true) ⟨z, y⟩, nI_1]
            refine mTo.W (T_goBack (n := n) (by omega) (by omega) (by omega) a3 a4 a5) (fun a V1 _ q => mTo.lt ?_)
            obtain ⟨⟨q1, q2⟩, q3⟩ := q
            rw [nI_1, e128]
            have u3 := nd_rem3 s (by omega) n (by omega) a1 (by omega)
            refine ih x (pl + 1) (nx8 n) V1 (by omega) (by omega) (by omega) hM (fun w => ?_) (fun w => ?_) (dv_mv hq he q3) (hR.mv q3 (by unfold wX1_goBack; omega) (by unfold wX1_goBack; omega))
            · rcases q2 with ⟨_, c⟩ | ⟨c, _⟩
              · exact c
              · exact absurd w c
            · rcases q2 with ⟨c, _⟩ | ⟨_, c1, c2⟩
              · omega
              · rcases nd_nx n (by omega) (by omega) with ⟨c, _⟩ | ⟨_, c4, c5, c6⟩
                · omega
                · refine ⟨?_, by omega, c1, c2, q1⟩
                  have := (nd_lt (nx8 n) c4 w).2.2.2
                  have : (2 : Nat) ^ (dp (nx8 n) + 1) ≤ 2 ^ (s + 1) := Nat.pow_le_pow_right (by decide) (by
                    rcases Nat.lt_or_ge (s + 1) (dp (nx8 n) + 1) with y | y
                    · exfalso
                      have : (2 : Nat) ^ (s + 1) ≤ 2 ^ dp n := Nat.pow_le_pow_right (by decide) (by omega)
                      omega
                    · exact y)
                  omega
  unfold mX1_judgeTree mX1_judgeTree_s
  have no : ∀ {P : Prop}, (1 : Int32) = 0 → P := fun z => absurd z (by decide)
  rw [hq.2.1]
  refine mTo.N (T_rWithin (j := 0) (by omega) hR (by omega)) (fun v _ q => mTo.tf q (fun hc => mTo.ret ⟨fun z => no z, fun z => absurd ((rowM1_iff (by omega)).mp z.1) hc⟩) (fun hc => ?_))
  have hM := (rowM1_iff (by omega)).mpr hc
  have bg : mTo (mX1_begin F V) (fun p => clS p.2 1 ∧ p.2.fI 5 6 = 0 ∧ dvS p.2) := by
    unfold mX1_begin
    refine mTo.lt (mTo.lt (mTo.lt (mTo.lt (mTo.lt (mTo.ret ⟨⟨?_, ?_⟩, ?_, 0, 0, by omega, by omega, ?_, ?_⟩)))))
    · rw [mF_no (Or.inr (by decide)), mF_no (Or.inr (by decide)), mF_no (Or.inr (by decide)), mF_no (Or.inr (by decide)), mF_at]
      decide
    · rw [mF_no (Or.inr (by decide)), mF_no (Or.inr (by decide)), mF_no (Or.inr (by decide)), mF_at]
      decide
    · rw [mF_no (Or.inr (by decide)), mF_no (Or.inr (by decide)), mF_at]
    · rw [mF_no (Or.inr (by decide)), mF_at]
      rfl
    · rw [mF_at]
      rfl
  obtain ⟨p, e1, q⟩ := bg
  have fr := NX1_begin (v := p.1) e1
  refine mTo.W (Q := fun p => clS p.2 1 ∧ p.2.fI 5 6 = 0 ∧ dvS p.2) ⟨p, e1, q⟩ (fun a V1 h3 q' => ?_)
  rw [e1] at h3
  cases h3
  have r1 := nd_rem1 s (by omega) h0
  have p0 : (2 : Nat) ^ 1 ≤ 2 ^ (s + 1) := Nat.pow_le_pow_right (by decide) (by omega)
  refine (go 128 F 0 1 V1 (by omega) (by omega) (Nat.zero_le _) hM (fun z => by omega) (fun _ => ⟨by omega, by omega, q'.1, q'.2.1, q'.2.2⟩) (hq.mv fr (by unfold wX1_begin; omega) (by unfold wX1_begin; omega)) (hR.mv fr (by unfold wX1_begin; omega) (by unfold wX1_begin; omega))).mono (fun p hp => ?_)
  exact ⟨fun z => ⟨hM, hp.mp z⟩, fun z => hp.mpr z.2⟩
end
