/-! THE PURE PART, permutations: a row's codes; the word's judge. -/
section
theorem T_holds1_go {F : Nat} {Ln : Nat → Nat} {V : mV} {r c f : Nat} {x : Int32} (hl : c ≤ Ln (r + 1)) (hL : Ln (r + 1) ≤ 1024) (hm : ∀ i j, f ≤ i → i < j → j < c → (V.rI (r + 1) i).toInt < (V.rI (r + 1) j).toInt) : ∀ n k' lo H cnt : Nat, n < k' → H < lo + 2 ^ n → cnt + n ≤ 31 → f ≤ lo → lo ≤ c → H ≤ c → (∀ i, f ≤ i → i < lo → (V.rI (r + 1) i).toInt < x.toInt) → (∀ i, H ≤ i → f ≤ i → i < c → x.toInt < (V.rI (r + 1) i).toInt) → mTo (mX9_holds_go F k' 0 Ln r x (nI lo) (nI H - 1) (nI cnt) V) (fun v => (v = 1 ∧ ∃ i, f ≤ i ∧ i < c ∧ V.rI (r + 1) i = x) ∨ (v = 0 ∧ ∀ i, f ≤ i → i < c → V.rI (r + 1) i ≠ x)) := by
  intro n
  induction n with
  | zero =>
    intro k' lo H cnt hk hw hc hf hlo hH h1 h2
    obtain ⟨k, rfl⟩ : ∃ k, k' = k + 1 := ⟨k' - 1, by omega⟩
    rw [mX9_holds_go, if_pos rfl]
    unfold mX9_holds_b0
    refine mTo.ite (fun h => ?_) (fun _ => ?_)
    · have := (nI_leI (a := 32) (b := cnt) (by omega) (by omega)).mp h
      omega
    · rw [if_pos ((nI_hi (by omega) (by omega)).mpr (by omega))]
      refine mTo.ret (Or.inr ⟨rfl, fun i hfi hi e => ?_⟩)
      by_cases hq : i < lo
      · have := h1 i hfi hq
        rw [e] at this
        omega
      · have := h2 i (by omega) hfi hi
        rw [e] at this
        omega
  | succ n ih =>
    intro k' lo H cnt hk hw hc hf hlo hH h1 h2
    obtain ⟨k, rfl⟩ : ∃ k, k' = k + 1 := ⟨k' - 1, by omega⟩
    rw [mX9_holds_go, if_pos rfl]
    unfold mX9_holds_b0
    refine mTo.ite (fun h => ?_) (fun _ => mTo.ite (fun h => ?_) (fun h => ?_))
    · have := (nI_leI (a := 32) (b := cnt) (by omega) (by omega)).mp h
      omega
    · have := (nI_hi (by omega) (by omega)).mp h
      refine mTo.ret (Or.inr ⟨rfl, fun i hfi hi e => ?_⟩)
      by_cases hq : i < lo
      · have := h1 i hfi hq
        rw [e] at this
        omega
      · have := h2 i (by omega) hfi hi
        rw [e] at this
        omega
    · have hlt : lo < H := Nat.lt_of_not_le fun z => h ((nI_hi (by omega) (by omega)).mpr z)
      obtain ⟨H', rfl⟩ : ∃ H', H = H' + 1 := ⟨H - 1, by omega⟩
      rw [nI_pred, nI_add, show (2 : Int32) = nI 2 from rfl, pk_div (by omega) (by decide) (by decide)]
      refine mTo.lt ?_
      obtain ⟨mid, hmid⟩ : ∃ mid, mid = (lo + H') / 2 := ⟨_, rfl⟩
      rw [← hmid]
      have b1 : lo ≤ mid := by omega
      have b2 : mid ≤ H' := by omega
      have hp : 2 ^ (n + 1) = 2 * 2 ^ n := by rw [Nat.pow_succ, Nat.mul_comm]
      refine mTo.gd (nI_in (by omega) (by omega)) ?_
      rw [nI_clamp (by omega)]
      refine mTo.ite (fun e => mTo.ret (Or.inl ⟨rfl, mid, by omega, by omega, e⟩)) (fun ne => mTo.gd (fun z => nI_in (c := mid) (N := Ln (r + 1)) (by omega) (by omega) (by rw [nI_clamp (by omega)]; exact z)) ?_)
      have ne' : (V.rI (r + 1) mid).toInt ≠ x.toInt := fun z => ne (Int32.toInt_inj.mp z)
      refine mTo.ite (fun h3 => mTo.lt (mTo.lt ?_)) (fun h3 => mTo.lt (mTo.lt ?_))
      · rw [nI_1]
        have h3 := i32le.mp h3
        refine ih k lo mid (cnt + 1) (by omega) (by omega) (by omega) hf hlo (by omega) h1 (fun i p1 pf p2 => ?_)
        by_cases hq : i = mid
        · subst hq
          omega
        · have := hm mid i (by omega) (by omega) p2
          omega
      · have h3 : ¬ x.toInt ≤ (V.rI (r + 1) mid).toInt := fun z => h3 (i32le.mpr z)
        have g := ih k (mid + 1) (H' + 1) (cnt + 1) (by omega) (by omega) (by omega) (by omega) (by omega) hH (fun i pf p1 => ?_) h2
        · rw [nI_pred] at g
          rw [nI_1, nI_1]
          exact g
        · by_cases hq : i = mid
          · subst hq
            omega
          · have := hm i mid pf (by omega) (by omega)
            omega
/-- x is among the row's numbers from the second on -/
def inT (xs : List Int32) (x : Int32) : Prop := ∃ i, 1 ≤ i ∧ i < xs.length ∧ xs.getD i 0 = x
theorem T_holds1 {F r : Nat} {Ln : Nat → Nat} {V : mV} {xs : List Int32} {x : Int32} (hF : 64 ≤ F) (hR : rowIs Ln V r xs) (h0 : xs.length ≠ 0) (hri : ∀ i, 1 ≤ i → i + 1 < xs.length → xs.getD i 0 < xs.getD (i + 1) 0) : mTo (mX9_holds F Ln r (1 : Int32) x V) (fun w => (w = 0 ∨ w = 1) ∧ (w ≠ 0 ↔ inT xs x)) := by
  have n := hR.n
  have mono : ∀ i j, 1 ≤ i → i < j → j < xs.length → (V.rI (r + 1) i).toInt < (V.rI (r + 1) j).toInt := by
    intro i j h1 hij hj
    induction j with
    | zero => omega
    | succ j ih =>
      have h2 := i32lt.mp (hri j (by omega) hj)
      rw [← hR.2.2.2 j (by omega), ← hR.2.2.2 (j + 1) hj] at h2
      by_cases hq : i = j
      · subst hq
        exact h2
      · have := ih (by omega) (by omega)
        omega
  unfold mX9_holds mX9_holds_s
  refine mTo.lt ?_
  rw [hR.1]
  refine (T_holds1_go (f := 1) hR.2.1 hR.L mono 11 F 1 xs.length 0 (by omega) (by omega) (by omega) (Nat.le_refl _) (by omega) (Nat.le_refl _) (fun i h1 h2 => by omega) (fun i h1 _ h2 => by omega)).mono (fun w hw => ?_)
  rcases hw with ⟨w1, i, i1, i2, i3⟩ | ⟨w0, hn⟩
  · refine ⟨Or.inr w1, fun _ => ⟨i, i1, i2, ?_⟩, fun _ => by rw [w1]; decide⟩
    rw [← hR.2.2.2 i i2]
    exact i3
  · refine ⟨Or.inl w0, fun z => absurd w0 z, fun ⟨i, i1, i2, i3⟩ => ?_⟩
    rw [← hR.2.2.2 i i2] at i3
    exact absurd i3 (hn i i1 i2)
/-- where the first i of the row lead the point -/
def apN (P : Nat → Nat → Nat) (xs : List Int32) : Nat → Nat → Nat
  | 0, x => x
  | i + 1, x => P (pX xs i) (apN P xs i x)
def wordOK (P : Nat → Nat → Nat) (G : Nat → Nat) (s lu : Nat) (xs : List Int32) : Prop := (∀ i, i < xs.length → ∃ c, 1 ≤ c ∧ c < lu ∧ xs.getD i 0 = nI c) ∧ ∀ x, x < s → apN P xs xs.length x = G x
theorem word_iff {lu : Nat} {xs : List Int32} (hlu : lu ≤ 5) : (∀ i, i < xs.length → ∃ c, 1 ≤ c ∧ c < lu ∧ xs.getD i 0 = nI c) ↔ ∀ i, 0 ≤ i → i < xs.length → ¬ xs.getD i 0 < 1 ∧ xs.getD i 0 ≤ nI lu - 1 := by
  constructor
  · intro h i _ hi
    obtain ⟨c, a, b, e⟩ := h i hi
    rw [e, show (1 : Int32) = nI 1 from rfl, nI_ltI (by omega) (by omega)]
    refine ⟨by omega, i32le.mpr ?_⟩
    have : ¬ nI lu - nI 1 < nI c := fun z => by
      have := (nI_hi (by omega) (by omega)).mp z
      omega
    exact Int.not_lt.mp (fun z => this (i32lt.mpr z))
  · intro h i hi
    obtain ⟨h1, h2⟩ := h i (Nat.zero_le _) hi
    have pos : ¬ xs.getD i 0 < 0 := fun z => h1 (i32lt.mpr (by have := i32lt.mp z; have e0 : (0 : Int32).toInt = 0 := rfl; have e1 : (1 : Int32).toInt = 1 := rfl; omega))
    obtain ⟨j, j1, j2⟩ := nI_of pos
    rw [j2, show (1 : Int32) = nI 1 from rfl, nI_ltI (by omega) (by omega)] at h1
    rw [j2] at h2
    refine ⟨j, by omega, Nat.lt_of_not_le fun z => ?_, j2⟩
    have h2 := i32le.mp h2
    rcases Nat.lt_or_ge j (2 ^ 20) with y | y
    · have := i32lt.mp ((nI_hi (H := lu) (lo := j) (by omega) (by omega)).mpr z)
      omega
    · have h3 := i32lt.mp ((nI_hi (H := lu) (lo := lu) (by omega) (by omega)).mpr (Nat.le_refl _))
      have h4 := i32lt.mp ((nI_ltI (a := lu) (b := j) (by omega) (by omega)).mpr (by omega))
      omega
theorem apN_P {P : Nat → Nat → Nat} {s lu : Nat} {xs : List Int32} (hlu : lu ≤ 5) (hP : ∀ c, c < lu → isP s (P c)) (hw : ∀ i, i < xs.length → ∃ c, 1 ≤ c ∧ c < lu ∧ xs.getD i 0 = nI c) : ∀ i, i ≤ xs.length → isP s (apN P xs i)
  | 0, _ => ⟨fun x h => h, fun i j h1 h2 => by show i ≠ j; omega⟩
  | i + 1, hi => by
    obtain ⟨c, c1, c2, c3⟩ := hw i (by omega)
    have e : apN P xs (i + 1) = fun x => P c (apN P xs i x) := funext fun x => by rw [apN, pX_eq c3 (by omega)]
    rw [e]
    exact isP.comp (hP c c2) (apN_P hlu hP hw i (by omega))
theorem T_judgeItems {F e r s m b : Nat} {Ln : Nat → Nat} {P : Nat → Nat → Nat} {d : Nat → Int32} {xs : List Int32} {V : mV} (hF : 2 ^ 14 ≤ F) (he : 256 ≤ e) (hr : 256 ≤ r) (hs : s ≤ 6) (hm : m ≤ 5) (hb : b < 2 ^ 20) (hd : qG d m s P) (hq : enQ V e s m (nI b) d) (hR : rowIs Ln V r xs) : mTo (mX10_judgeItems F Ln e r V) (fun p => p.1 = 0 ↔ wordOK P (goalP m P) s (luN m b) xs) := by
  have lm : luN m b ≤ m := by
    unfold luN
    by_cases z : m < b + 1
    · rw [if_pos z]
      omega
    · rw [if_neg z]
      omega
  have n := hR.n
  have no : ∀ {P : Prop}, (1 : Int32) = 0 → P := fun z => absurd z (by decide)
  have no2 : ∀ {P : Prop}, (2 : Int32) = 0 → P := fun z => absurd z (by decide)
  have pG := goal_P hd
  unfold mX10_judgeItems mX10_judgeItems_s
  refine mTo.W (T_loadItems (F := F) (by omega) he hs hm hb hd hq) (fun a V0 _ qf => ?_)
  obtain ⟨hM, ha⟩ := qf
  have hM : pmS V0 s (luN m b) P (goalP m P) := hM
  have ha : mAv (wX10_loadItems e) V V0 := ha
  have hR := hR.mv ha (by unfold wX10_loadItems; omega) (by unfold wX10_loadItems; omega)
  generalize hlu : luN m b = lu at *
  generalize hG : goalP m P = G at *
  refine mTo.N (T_rWithin (j := 0) (by omega) hR (by omega)) (fun v _ q => mTo.tf q (fun hc => mTo.ret ⟨fun y => no y, fun y => absurd ((word_iff (by omega)).mp y.1) (fun z => hc (by rw [hM.2.1]; exact z))⟩) (fun hc => ?_))
  rw [hM.2.1] at hc
  have hw := (word_iff (by omega)).mpr hc
  have hP : ∀ c, c < lu → isP s (P c) := fun c h => (hd c (by omega)).2.1
  have pA := apN_P (by omega) hP hw
  obtain ⟨M, hMM, hM2⟩ : ∃ M, xs.length + 3 ≤ M ∧ M ≤ 1100 := ⟨xs.length + 3, Nat.le_refl _, by omega⟩
  have go : ∀ k', (∀ dd pt, dd * M + 1 ≤ k' → pt + dd = s → (∀ x, x < pt → apN P xs xs.length x = G x) → mTo (mX10_judgeItems_go F k' 0 Ln r (nI pt) 0 0 V0) (fun p => p.1 = 0 ↔ wordOK P G s lu xs)) ∧ (∀ dd pt i, dd * M + (xs.length - i) + 2 ≤ k' → pt + dd + 1 = s → i ≤ xs.length → (∀ x, x < pt → apN P xs xs.length x = G x) → mTo (mX10_judgeItems_go F k' 1 Ln r (nI pt) (nI (apN P xs i pt)) (nI i) V0) (fun p => p.1 = 0 ↔ wordOK P G s lu xs)) := by
    intro k'
    induction k' with
    | zero => exact ⟨fun dd pt h => by omega, fun dd pt i h => by omega⟩
    | succ k ih =>
      obtain ⟨ih0, ih1⟩ := ih
      refine ⟨fun dd pt h1 h2 hh => ?_, fun dd pt i h1 h2 h3 hh => ?_⟩
      · rw [mX10_judgeItems_go, if_pos rfl]
        unfold mX10_judgeItems_b0
        refine mTo.le hM.1 rfl (by omega) (by omega) (fun z => mTo.ret ⟨fun _ => ⟨hw, fun x hx => hh x (by omega)⟩, fun _ => rfl⟩) (fun z => ?_)
        obtain ⟨t, rfl⟩ : ∃ t, dd = t + 1 := ⟨dd - 1, by omega⟩
        have em : (t + 1) * M = t * M + M := Nat.succ_mul t M
        exact ih1 t pt 0 (by omega) (by omega) (Nat.zero_le _) hh
      · rw [mX10_judgeItems_go, if_neg (by decide), if_pos rfl]
        unfold mX10_judgeItems_b1
        have ap := (pA i h3).1 pt (by omega)
        have gp := pG.1 pt (by omega)
        refine mTo.le hR.1 rfl (by omega) (by omega) (fun z => mTo.ix rfl (by omega) (by omega) ?_) (fun z => mTo.so (T_rAt hR (by omega)) ?_)
        · have : i = xs.length := by omega
          subst this
          refine mTo.eqI rfl (by rw [nI_clamp (by omega)]; exact hM.2.2.2 pt (by omega)) (by omega) (by omega) (fun y => mTo.lt ?_) (fun y => mTo.ret ⟨fun w => no2 w, fun w => absurd (w.2 pt (by omega)) y⟩)
          rw [nI_1]
          refine ih0 dd (pt + 1) (by omega) (by omega) (fun x hx => ?_)
          by_cases w : x = pt
          · rw [w]
            exact y
          · exact hh x (by omega)
        · obtain ⟨c, c1, c2, c3⟩ := hw i z
          rw [c3]
          refine mTo.ix rfl (by omega) (by omega) (mTo.ix rfl (by omega) (by omega) (mTo.lt (mTo.lt ?_)))
          rw [nI_1, show V0.rI (71 + (nI c).toNatClampNeg) (nI (apN P xs i pt)).toNatClampNeg = nI (apN P xs (i + 1) pt) by rw [nI_clamp (by omega), nI_clamp (by omega), apN, pX_eq c3 (by omega)]; exact hM.2.2.1 c c2 _ ap]
          exact ih1 dd pt (i + 1) (by omega) (by omega) (by omega) hh
  have sM : s * M ≤ 6 * M := Nat.mul_le_mul_right _ hs
  exact (go F).1 s 0 (by omega) (Nat.zero_add _) (fun x hx => absurd hx (Nat.not_lt_zero _))
end
