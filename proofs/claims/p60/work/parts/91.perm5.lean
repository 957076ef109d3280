/-! THE PURE PART, permutations: codes read back; the rows' judge. -/
section
theorem xor6 (x : Int32) : 0 ≤ x ^^^ 6 ↔ 0 ≤ x := by
  have h1 : (x ^^^ 6).toBitVec.msb = x.toBitVec.msb := by
    rw [Int32.toBitVec_xor, BitVec.msb_xor, show (6 : Int32).toBitVec.msb = false by decide, Bool.xor_false]
  rw [BitVec.msb_eq_toInt, BitVec.msb_eq_toInt] at h1
  have h2 : (x ^^^ 6).toInt < 0 ↔ x.toInt < 0 := decide_eq_decide.mp h1
  rw [i32le, i32le, show (0 : Int32).toInt = 0 from rfl]
  omega
theorem sub1_I {y : Int32} (h1 : -2147483648 < y.toInt) : (y - 1).toInt = y.toInt - 1 := by
  have h2 := Int32.toInt_lt y
  rw [Int32.toInt_sub, show (1 : Int32).toInt = 1 from rfl]
  simp only [Int.bmod]
  omega
/-- the two floors by 6 -/
theorem fl6 (x : Int32) : ∃ y : Int32, ∃ c : Nat, c < 6 ∧ (∀ F, mJ9_floorMod_7cf53 F x 6 = some (nI c) ∧ mJ9_floorDiv_7cf53 F x 6 = some y) ∧ x.toInt = y.toInt * 6 + c := by
  have b1 := Int32.le_toInt x
  have b2 := Int32.toInt_lt x
  have e6 : (6 : Int32).toInt = 6 := rfl
  have hd : (x / 6).toInt = x.toInt.tdiv 6 := by rw [Int32.toInt_div_of_ne_right _ _ (by decide), e6]
  have tb : (0 ≤ x.toInt → 0 ≤ x.toInt.tdiv 6 ∧ 0 ≤ x.toInt - x.toInt.tdiv 6 * 6 ∧ x.toInt - x.toInt.tdiv 6 * 6 < 6) ∧ (x.toInt < 0 → x.toInt.tdiv 6 ≤ 0 ∧ -6 < x.toInt - x.toInt.tdiv 6 * 6 ∧ x.toInt - x.toInt.tdiv 6 * 6 ≤ 0) := by
    refine ⟨fun h => ?_, fun h => ?_⟩
    · rw [Int.tdiv_eq_ediv_of_nonneg h]
      omega
    · have t1 := Int.neg_tdiv (-x.toInt) 6
      have t2 : (-x.toInt).tdiv 6 = -x.toInt / 6 := Int.tdiv_eq_ediv_of_nonneg (by omega)
      rw [Int.neg_neg, t2] at t1
      rw [t1]
      omega
  obtain ⟨tb1, tb2⟩ := tb
  generalize x.toInt.tdiv 6 = D at *
  have tb3 : -715827882 < D + 2 ∧ D < 715827882 + 2 ∧ -6 < x.toInt - D * 6 ∧ x.toInt - D * 6 < 6 := by
    rcases Int.lt_or_le x.toInt 0 with h | h
    · have := tb2 h
      omega
    · have := tb1 h
      omega
  have hm : (x / 6 * 6).toInt = D * 6 := by
    rw [Int32.toInt_mul, hd, e6]
    simp only [Int.bmod]
    omega
  have hs : (x - x / 6 * 6).toInt = x.toInt - D * 6 := by
    rw [Int32.toInt_sub, hm]
    simp only [Int.bmod]
    omega
  by_cases pos : 0 ≤ x
  · have p := i32le.mp pos
    rw [show (0 : Int32).toInt = 0 from rfl] at p
    refine ⟨x / 6, (x.toInt - D * 6).toNat, by omega, fun F => ⟨?_, ?_⟩, by omega⟩
    · unfold mJ9_floorMod_7cf53
      rw [if_neg (by decide)]
      show (if 0 ≤ x ^^^ 6 then some (x - x / 6 * 6) else _) = _
      rw [if_pos ((xor6 x).mpr pos)]
      congr 1
      refine Int32.toInt_inj.mp ?_
      rw [hs, nI_toInt (by omega)]
      exact (Int.toNat_of_nonneg (tb1 p).2.1).symm
    · unfold mJ9_floorDiv_7cf53
      rw [if_neg (by decide)]
      show (if 0 ≤ x ^^^ 6 then some (x / 6) else _) = _
      rw [if_pos ((xor6 x).mpr pos)]
  · have p : x.toInt < 0 := by
      have q : x.toInt < (0 : Int32).toInt := Int.not_le.mp (fun z => pos (i32le.mpr z))
      exact q
    by_cases z : D * 6 = x.toInt
    · refine ⟨x / 6, 0, by omega, fun F => ⟨?_, ?_⟩, by omega⟩
      · unfold mJ9_floorMod_7cf53
        rw [if_neg (by decide)]
        have e0 : x - x / 6 * 6 = 0 := Int32.toInt_inj.mp (by rw [hs, show (0 : Int32).toInt = 0 from rfl]; omega)
        show (if 0 ≤ x ^^^ 6 then some (x - x / 6 * 6) else if x - x / 6 * 6 = 0 then some (x - x / 6 * 6) else _) = _
        rw [if_neg (fun y => pos ((xor6 x).mp y)), if_pos e0, e0]
        rfl
      · unfold mJ9_floorDiv_7cf53
        rw [if_neg (by decide)]
        have e0 : x / 6 * 6 = x := Int32.toInt_inj.mp (by rw [hm]; omega)
        show (if 0 ≤ x ^^^ 6 then some (x / 6) else if x / 6 * 6 = x then some (x / 6) else _) = _
        rw [if_neg (fun y => pos ((xor6 x).mp y)), if_pos e0]
    · have h1 : (x / 6 - 1).toInt = D - 1 := by
        rw [sub1_I (by rw [hd]; omega), hd]
      have h2 : (x - x / 6 * 6 + 6).toInt = x.toInt - D * 6 + 6 := by
        rw [Int32.toInt_add, hs, e6]
        simp only [Int.bmod]
        omega
      refine ⟨x / 6 - 1, (x.toInt - D * 6 + 6).toNat, by omega, fun F => ⟨?_, ?_⟩, by omega⟩
      · unfold mJ9_floorMod_7cf53
        rw [if_neg (by decide)]
        have e0 : ¬ x - x / 6 * 6 = 0 := fun y => by
          have := congrArg Int32.toInt y
          rw [hs, show (0 : Int32).toInt = 0 from rfl] at this
          omega
        show (if 0 ≤ x ^^^ 6 then some (x - x / 6 * 6) else if x - x / 6 * 6 = 0 then some (x - x / 6 * 6) else some (x - x / 6 * 6 + 6)) = _
        rw [if_neg (fun y => pos ((xor6 x).mp y)), if_neg e0]
        congr 1
        refine Int32.toInt_inj.mp ?_
        rw [h2, nI_toInt (by omega)]
        omega
      · unfold mJ9_floorDiv_7cf53
        rw [if_neg (by decide)]
        have e0 : ¬ x / 6 * 6 = x := fun y => by
          have := congrArg Int32.toInt y
          rw [hm] at this
          omega
        show (if 0 ≤ x ^^^ 6 then some (x / 6) else if x / 6 * 6 = x then some (x / 6) else some (x / 6 - 1)) = _
        rw [if_neg (fun y => pos ((xor6 x).mp y)), if_neg e0]
/-- the number v, and then the digits from i on -/
def exN (g : Nat → Nat) (v : Int) (i : Nat) : Nat → Int
  | 0 => v
  | k + 1 => exN g v i k * 6 + g (i + k)
theorem exN_cg {g h : Nat → Nat} {v : Int} {i : Nat} : ∀ k, (∀ j, j < k → g (i + j) = h (i + j)) → exN g v i k = exN h v i k
  | 0, _ => rfl
  | k + 1, hh => by rw [exN, exN, exN_cg k (fun j hj => hh j (by omega)), hh k (by omega)]
theorem exN_sh {g : Nat → Nat} {v : Int} {i : Nat} : ∀ k, exN g (v * 6 + g i) (i + 1) k = exN g v i (k + 1)
  | 0 => rfl
  | k + 1 => by
    rw [exN, exN_sh k, exN, show i + 1 + k = i + (k + 1) by omega]
    rfl
theorem exN_cd {p : Nat → Nat} : ∀ k, exN p 0 0 k = (cdN p k : Int)
  | 0 => rfl
  | k + 1 => by
    rw [exN, exN_cd k, cdN, Nat.zero_add]
    omega
theorem exN_inj {g h : Nat → Nat} {v w : Int} {i : Nat} : ∀ k, (∀ j, j < k → g (i + j) < 6) → (∀ j, j < k → h (i + j) < 6) → exN g v i k = exN h w i k → v = w ∧ ∀ j, j < k → g (i + j) = h (i + j)
  | 0, _, _, e => ⟨e, fun j hj => absurd hj (Nat.not_lt_zero _)⟩
  | k + 1, h1, h2, e => by
    rw [exN, exN] at e
    have a := h1 k (by omega)
    have b := h2 k (by omega)
    obtain ⟨c, d⟩ := exN_inj (g := g) (h := h) (v := v) (w := w) (i := i) k (fun j hj => h1 j (by omega)) (fun j hj => h2 j (by omega)) (by omega)
    refine ⟨c, fun j hj => ?_⟩
    by_cases z : j = k
    · rw [z]
      omega
    · exact d j (by omega)
theorem T_readCode {F many : Nat} {x : Int32} {V : mV} (hF : 64 ≤ F) (hm : many ≤ 6) : mTo (mX10_readCode F x (nI many) V) (fun p => (∃ g : Nat → Nat, (∀ j, j < many → g j < 6) ∧ rowP p.2 77 many g ∧ x.toInt = exN g p.1.toInt 0 many) ∧ mAv wX10_readCode V p.2) := by
  have go : ∀ k' i (y : Int32) (V : mV) (g : Nat → Nat), i < k' → i ≤ many → (∀ j, i ≤ j → j < many → g j < 6) → (∀ j, i ≤ j → j < many → V.rI 77 j = nI (g j)) → x.toInt = exN g y.toInt i (many - i) → mTo (mX10_readCode_go F k' 0 y (nI i - 1) V) (fun p => ∃ g : Nat → Nat, (∀ j, j < many → g j < 6) ∧ rowP p.2 77 many g ∧ x.toInt = exN g p.1.toInt 0 many) := by
    intro k'
    induction k' with
    | zero => intro i y V g h1; omega
    | succ k ih =>
      intro i y V g h1 h2 hg hr hx
      rw [mX10_readCode_go, if_pos rfl]
      unfold mX10_readCode_b0
      cases i with
      | zero =>
        rw [if_pos (by decide)]
        exact mTo.ret ⟨g, fun j hj => hg j (Nat.zero_le _) hj, fun j hj => hr j (Nat.zero_le _) hj, hx⟩
      | succ i =>
        have ci : (nI i).toNatClampNeg = i := nI_clamp (by omega)
        obtain ⟨y', c, c6, hf, he⟩ := fl6 y
        rw [nI_pred, if_neg (nI_pos (by omega))]
        refine mTo.so (hf F).1 (mTo.ix rfl (by omega) (by omega) (mTo.lt (mTo.so (hf F).2 (mTo.lt ?_))))
        rw [nI_m1']
        refine ih i y' _ (fun j => if j = i then c else g j) (by omega) (by omega) (fun j h3 h4 => ?_) (fun j h3 h4 => ?_) ?_
        · by_cases z : j = i
          · rw [if_pos z]
            exact c6
          · rw [if_neg z]
            exact hg j (by omega) h4
        · rw [mI_at ci]
          by_cases z : j = i
          · rw [if_pos z, if_pos z]
          · rw [if_neg z, if_neg z]
            exact hr j (by omega) h4
        · have s1 := exN_sh (g := fun j => if j = i then c else g j) (v := y'.toInt) (i := i) (many - (i + 1))
          rw [show many - (i + 1) + 1 = many - i by omega] at s1
          rw [← s1, hx]
          have s2 : (if i = i then c else g i : Nat) = c := if_pos rfl
          show _ = exN (fun j => if j = i then c else g j) (y'.toInt * 6 + ((if i = i then c else g i : Nat) : Int)) (i + 1) (many - (i + 1))
          rw [s2, ← he]
          refine exN_cg _ (fun j hj => ?_)
          rw [if_neg (by omega)]
  have main : mTo (mX10_readCode F x (nI many) V) (fun p => ∃ g : Nat → Nat, (∀ j, j < many → g j < 6) ∧ rowP p.2 77 many g ∧ x.toInt = exN g p.1.toInt 0 many) := by
    unfold mX10_readCode mX10_readCode_s
    refine mTo.lt ?_
    refine go F many x V (fun _ => 0) (by omega) (Nat.le_refl _) (fun j h1 h2 => by omega) (fun j h1 h2 => by omega) ?_
    rw [Nat.sub_self]
    rfl
  obtain ⟨p, e1, q⟩ := main
  exact ⟨p, e1, q, NX10_readCode (v := p.1) e1⟩
/-- k points of s, no two alike -/
def isQ (s k : Nat) (p : Nat → Nat) : Prop := (∀ j, j < k → p j < s) ∧ ∀ i j, i < j → j < k → p i ≠ p j
def mkM (g : Nat → Nat) : Nat → Nat
  | 0 => 0
  | j + 1 => mkM g j ||| 2 ^ g j
theorem mkM_lt {g : Nat → Nat} : ∀ k, (∀ j, j < k → g j < 6) → mkM g k < 2 ^ 6
  | 0, _ => show 0 < 2 ^ 6 by omega
  | k + 1, h => nb_or_lt (mkM_lt k (fun j hj => h j (by omega))) (nb_p2 (h k (by omega)))
theorem mkM_bit {g : Nat → Nat} {a : Nat} : ∀ k, (mkM g k).testBit a = true ↔ ∃ j, j < k ∧ g j = a
  | 0 => ⟨fun h => by rw [mkM, Nat.zero_testBit] at h; exact absurd h (by decide), fun ⟨j, hj, _⟩ => absurd hj (Nat.not_lt_zero _)⟩
  | k + 1 => by
    rw [mkM, Nat.testBit_or, Bool.or_eq_true, nb_pow, decide_eq_true_eq, mkM_bit k]
    constructor
    · rintro (⟨j, h1, h2⟩ | h)
      · exact ⟨j, by omega, h2⟩
      · exact ⟨k, by omega, h⟩
    · rintro ⟨j, h1, h2⟩
      by_cases z : j = k
      · exact Or.inr (by rw [← z]; exact h2)
      · exact Or.inl ⟨j, by omega, h2⟩
theorem pop_or : ∀ M, M < 2 ^ 6 → ∀ a, a < 6 → pop (M ||| 2 ^ a) = if M.testBit a = true then pop M else pop M + 1 := by decide +kernel
theorem pop_le {g : Nat → Nat} : ∀ k, (∀ j, j < k → g j < 6) → pop (mkM g k) ≤ k
  | 0, _ => by
    show pop 0 ≤ 0
    decide
  | k + 1, h => by
    have ih := pop_le (g := g) k (fun j hj => h j (by omega))
    rw [mkM, pop_or _ (mkM_lt k (fun j hj => h j (by omega))) _ (h k (by omega))]
    by_cases z : (mkM g k).testBit (g k) = true
    · rw [if_pos z]
      omega
    · rw [if_neg z]
      omega
theorem pop_iff {g : Nat → Nat} : ∀ k, (∀ j, j < k → g j < 6) → (pop (mkM g k) = k ↔ ∀ i j, i < j → j < k → g i ≠ g j)
  | 0, _ => ⟨fun _ i j _ hj => absurd hj (Nat.not_lt_zero _), fun _ => (by decide : pop 0 = 0)⟩
  | k + 1, h => by
    have ih := pop_iff (g := g) k (fun j hj => h j (by omega))
    have le := pop_le (g := g) k (fun j hj => h j (by omega))
    rw [mkM, pop_or _ (mkM_lt k (fun j hj => h j (by omega))) _ (h k (by omega))]
    by_cases z : (mkM g k).testBit (g k) = true
    · rw [if_pos z]
      obtain ⟨j, j1, j2⟩ := (mkM_bit k).mp z
      exact ⟨fun y => by omega, fun y => absurd j2 (y j k j1 (by omega))⟩
    · rw [if_neg z]
      constructor
      · intro y i j hij hj
        by_cases w : j = k
        · rw [w]
          exact fun q => z ((mkM_bit k).mpr ⟨i, by omega, q⟩)
        · exact ih.mp (by omega) i j hij (by omega)
      · intro y
        have := ih.mpr (fun i j hij hj => y i j hij (by omega))
        omega
theorem mkM_s : ∀ s, s < 7 → ∀ M, M < 2 ^ 6 → (M / 2 ^ s = 0 ↔ ∀ a, a < 6 → M.testBit a = true → a < s) := by decide +kernel
theorem q_iff {g : Nat → Nat} {s k : Nat} (hs : s ≤ 6) (h : ∀ j, j < k → g j < 6) : (pop (mkM g k) = k ∧ mkM g k / 2 ^ s = 0) ↔ isQ s k g := by
  rw [pop_iff k h, mkM_s s (by omega) _ (mkM_lt k h)]
  constructor
  · rintro ⟨a, b⟩
    exact ⟨fun j hj => b _ (h j hj) ((mkM_bit k).mpr ⟨j, hj, rfl⟩), a⟩
  · rintro ⟨a, b⟩
    refine ⟨b, fun x _ hx => ?_⟩
    obtain ⟨j, j1, j2⟩ := (mkM_bit k).mp hx
    rw [← j2]
    exact a j j1
/-- the code x is a row of k points of s -/
def isC (s k : Nat) (x : Int32) : Prop := ∃ p, isQ s k p ∧ x = nI (cdN p k)
theorem cdN_b {p : Nat → Nat} {k : Nat} (hk : k ≤ 6) (h : ∀ j, j < k → p j < 6) : cdN p k < 2 ^ 16 := by
  have := cdN_lt k h
  have : 6 ^ k ≤ 6 ^ 6 := Nat.pow_le_pow_right (by decide) hk
  omega
theorem code_of {g : Nat → Nat} {s k : Nat} {x y : Int32} (hs : s ≤ 6) (hk : k ≤ 6) (hg : ∀ j, j < k → g j < 6) (hx : x.toInt = exN g y.toInt 0 k) : (y = 0 ∧ isQ s k g ↔ isC s k x) ∧ ∀ p, isQ s k p → x = nI (cdN p k) → ∀ j, j < k → g j = p j := by
  have key : ∀ p, isQ s k p → x = nI (cdN p k) → y.toInt = 0 ∧ ∀ j, j < k → g j = p j := by
    intro p hp e
    have hp6 : ∀ j, j < k → p j < 6 := fun j hj => by have := hp.1 j hj; omega
    have cb := cdN_b hk hp6
    rw [e, nI_toInt (by omega), ← exN_cd k] at hx
    obtain ⟨a, b⟩ := exN_inj (i := 0) k (fun j hj => by rw [Nat.zero_add]; exact hp6 j hj) (fun j hj => by rw [Nat.zero_add]; exact hg j hj) hx
    refine ⟨a.symm, fun j hj => ?_⟩
    have := b j hj
    rw [Nat.zero_add] at this
    exact this.symm
  refine ⟨⟨fun ⟨a, b⟩ => ⟨g, b, ?_⟩, fun ⟨p, hp, e⟩ => ?_⟩, fun p hp e => (key p hp e).2⟩
  · have cb := cdN_b hk hg
    refine Int32.toInt_inj.mp ?_
    rw [hx, a, nI_toInt (by omega)]
    exact exN_cd k
  · obtain ⟨a, b⟩ := key p hp e
    refine ⟨Int32.toInt_inj.mp a, fun j hj => ?_, fun i j hij hj => ?_⟩
    · rw [b j hj]
      exact hp.1 j hj
    · rw [b j hj, b i (by omega)]
      exact hp.2 i j hij hj
theorem T_areRows {F r s many : Nat} {Ln : Nat → Nat} {xs : List Int32} {V : mV} (hF : 2 ^ 16 ≤ F) (hr : 256 ≤ r) (hs : s ≤ 6) (hm1 : 1 ≤ many) (hm : many ≤ s) (h10 : V.fI 7 10 = nI s) (hR : rowIs Ln V r xs) : mTo (mX10_areRowsOf F Ln r (nI many) V) (fun p => ((p.1 = 0 ∨ p.1 = 1) ∧ (p.1 ≠ 0 ↔ ∀ i, 1 ≤ i → i < xs.length → isC s many (xs.getD i 0))) ∧ mAv (wX10_areRowsOf r) V p.2) := by
  have n := hR.n
  have go : ∀ k', (∀ i (V : mV), (xs.length - i) * 20 + 1 ≤ k' → V.fI 7 10 = nI s → rowIs Ln V r xs → 1 ≤ i ∧ i ≤ 1025 → (∀ t, 1 ≤ t → t < i → t < xs.length → isC s many (xs.getD t 0)) → mTo (mX10_areRowsOf_go F k' 0 Ln r (nI many) (nI i) 0 0 0 V) (fun p => (p.1 = 0 ∨ p.1 = 1) ∧ (p.1 ≠ 0 ↔ ∀ i, 1 ≤ i → i < xs.length → isC s many (xs.getD i 0)))) ∧ (∀ i j (y : Int32) (g : Nat → Nat) (V : mV), (xs.length - i - 1) * 20 + (many - j) + 3 ≤ k' → V.fI 7 10 = nI s → rowIs Ln V r xs → 1 ≤ i → i < xs.length → j ≤ many → (∀ l, l < many → g l < 6) → rowP V 77 many g → (xs.getD i 0).toInt = exN g y.toInt 0 many → (∀ t, 1 ≤ t → t < i → t < xs.length → isC s many (xs.getD t 0)) → mTo (mX10_areRowsOf_go F k' 1 Ln r (nI many) (nI i) y (nI (mkM g j)) (nI j) V) (fun p => (p.1 = 0 ∨ p.1 = 1) ∧ (p.1 ≠ 0 ↔ ∀ i, 1 ≤ i → i < xs.length → isC s many (xs.getD i 0)))) := by
    intro k'
    induction k' with
    | zero => exact ⟨fun i V h => by omega, fun i j y g V h => by omega⟩
    | succ k ih =>
      obtain ⟨ih0, ih1⟩ := ih
      refine ⟨fun i V h1 h10 hR hi hh => ?_, fun i j y g V h1 h10 hR hi1 hi hj hg hP hx hh => ?_⟩
      · rw [mX10_areRowsOf_go, if_pos rfl]
        unfold mX10_areRowsOf_b0
        refine mTo.le hR.1 rfl (by omega) (by omega) (fun z => mTo.ret ⟨Or.inr rfl, fun _ t t1 t2 => hh t t1 (by omega) t2, fun _ => (by decide : (1 : Int32) ≠ 0)⟩) (fun z => mTo.so (T_rAt hR (by omega)) ?_)
        refine mTo.W (T_readCode (F := F) (by omega) (by omega)) (fun y V1 _ q => ?_)
        obtain ⟨⟨g, g1, g2, g3⟩, q2⟩ := q
        have q2 : mAv wX10_readCode V V1 := q2
        exact ih1 i 0 y g V1 (by omega) (by rw [(q2.1 7 (by unfold wX10_readCode; omega)).1]; exact h10) (hR.mv q2 (by unfold wX10_readCode; omega) (by unfold wX10_readCode; omega)) hi.1 z (Nat.zero_le _) g1 g2 g3 hh
      · rw [mX10_areRowsOf_go, if_neg (by decide), if_pos rfl]
        unfold mX10_areRowsOf_b1
        have mlt := mkM_lt (g := g) j (fun l hl => hg l (by omega))
        obtain ⟨c1, _⟩ := code_of (s := s) hs (by omega) hg hx
        refine mTo.le rfl rfl (by omega) (by omega) (fun z => ?_) (fun z => ?_)
        · have : j = many := by omega
          subst this
          have nope : ¬ isC s j (xs.getD i 0) → ∀ V' : mV, mTo (some ((0 : Int32), V')) (fun p => (p.1 = 0 ∨ p.1 = 1) ∧ (p.1 ≠ 0 ↔ ∀ i, 1 ≤ i → i < xs.length → isC s j (xs.getD i 0))) := fun w V' => mTo.ret ⟨Or.inl rfl, fun w => absurd rfl w, fun w2 => absurd (w2 i hi1 hi) w⟩
          have qi := q_iff hs hg
          have pl := pop_le j hg
          refine mTo.ite (fun y0 => mTo.so (T_pop (by omega)) (mTo.eqI rfl rfl (by omega) (by omega) (fun p1 => mTo.ite (fun p2 => mTo.lt ?_) (fun p2 => nope (fun w => ?_) V)) (fun p1 => nope (fun w => p1 (qi.mpr (c1.mpr w).2).1) V))) (fun y0 => nope (fun w => y0 (c1.mpr w).1) V)
          · rw [h10, nb_shr (by omega) (by omega)] at p2
            have ml := Nat.div_le_self (mkM g j) (2 ^ s)
            have p2 := (nI_eq (a := mkM g j / 2 ^ s) (b := 0) (by omega) (by omega)).mp p2
            rw [nI_1]
            refine ih0 (i + 1) V (by omega) h10 hR (by omega) (fun t t1 t2 t3 => ?_)
            by_cases w : t = i
            · rw [w]
              exact c1.mp ⟨y0, qi.mp ⟨p1, p2⟩⟩
            · exact hh t t1 (by omega) t3
          · rw [h10, nb_shr (by omega) (by omega)] at p2
            exact p2 (by rw [(qi.mpr (c1.mpr w).2).2]; rfl)
        · have cj : (nI j).toNatClampNeg = j := nI_clamp (by omega)
          refine mTo.ix rfl (by omega) (by omega) (mTo.lt (mTo.lt ?_))
          rw [show V.rI 77 (nI j).toNatClampNeg = nI (g j) by rw [cj]; exact hP j z, nb_one (by have := hg j z; omega), nb_or, nI_1]
          exact ih1 i (j + 1) y g V (by omega) h10 hR hi1 hi (by omega) hg hP hx hh
  have main : mTo (mX10_areRowsOf F Ln r (nI many) V) (fun p => (p.1 = 0 ∨ p.1 = 1) ∧ (p.1 ≠ 0 ↔ ∀ i, 1 ≤ i → i < xs.length → isC s many (xs.getD i 0))) := by
    unfold mX10_areRowsOf mX10_areRowsOf_s
    exact (go F).1 1 V (by omega) h10 hR (by omega) (fun t h1 h2 => by omega)
  obtain ⟨p, e1, q⟩ := main
  exact ⟨p, e1, q, NX10_areRowsOf (v := p.1) e1⟩
end
