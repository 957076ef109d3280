/-! THE PURE PART, permutations: what is loaded; numbers and back by the class's methods. -/
section
def sm (P : Nat → Nat) : Nat → Nat
  | 0 => 0
  | n + 1 => sm P n + P n
theorem sm_le {P : Nat → Nat} {n : Nat} : ∀ k, sm P n ≤ sm P (n + k)
  | 0 => Nat.le_refl _
  | k + 1 => Nat.le_trans (sm_le k) (Nat.le_add_right _ _)
/-- the item i tells the permutation P -/
def itP (d : Nat → Int32) (s i : Nat) (P : Nat → Nat) : Prop := (∀ p, p < s → p < 5 → d (5 * i + p) = nI (P p)) ∧ isP s P ∧ (s = 6 → P 5 + sm P 5 = 15)
def rowP (V : mV) (a s : Nat) (P : Nat → Nat) : Prop := ∀ p, p < s → V.rI a p = nI (P p)
theorem T_loadPoints {F e s m i a : Nat} {b : Int32} {d : Nat → Int32} {P : Nat → Nat} {V : mV} (hF : 64 ≤ F) (ha : mLen a = 6) (hae : a ≠ e + 1) (hs : s ≤ 6) (hm : m ≤ 5) (hi : i < m) (hd : itP d s i P) (hq : enQ V e s m b d) : mTo (mX10_loadPoints F e (nI i) a V) (fun p => rowP p.2 a s P ∧ mAv (wX10_loadPoints e a) V p.2) := by
  obtain ⟨d1, d2, d3⟩ := hd
  have go : ∀ k' j (x : Int32) (V : mV), 6 < j + k' → j ≤ s → j ≤ 5 → (s = 6 → x = nI (15 - sm P j)) → enQ V e s m b d → (∀ p, p < j → V.rI a p = nI (P p)) → mTo (mX10_loadPoints_go F k' 0 e (nI i) a x (nI j) V) (fun p => rowP p.2 a s P) := by
    intro k'
    induction k' with
    | zero => intro j x V h1 h2; omega
    | succ k ih =>
      intro j x V h1 h2 h5 hx hq hr
      have fin : (s ≤ j ∨ 5 ≤ j) → mTo (if (V.fI e 1) = (6 : Int32) then (if (5 : Int32) < 0 ∨ mLen a ≤ ((5 : Int32)).toNatClampNeg then none else (mLt (mI V a ((5 : Int32)) (x)) fun V4 => some ((), V4))) else some ((), V)) (fun p => rowP p.2 a s P) := fun h => by
        refine mTo.eqI (b := 6) hq.1 rfl (by omega) (by omega) (fun e6 => mTo.ix (c := 5) rfl (by omega) (by omega) (mTo.lt (mTo.ret (fun p hp => ?_)))) (fun e6 => mTo.ret (fun p hp => hr p (by omega)))
        have j5 : j = 5 := by omega
        rw [mI_at (j := 5) (by decide)]
        by_cases z : p = 5
        · rw [if_pos z, hx e6, j5, z]
          congr 1
          have := d3 e6
          omega
        · rw [if_neg z]
          exact hr p (by omega)
      rw [mX10_loadPoints_go, if_pos rfl]
      unfold mX10_loadPoints_b0
      refine mTo.le hq.1 rfl (by omega) (by omega) (fun h => fin (Or.inl h)) (fun h => mTo.le (a := 5) rfl rfl (by omega) (by omega) (fun g => fin (Or.inr g)) (fun g => ?_))
      refine mTo.so (T_item (k := j) hq.2.1 (by omega) hi g rfl ((hq.2.2.2 _ (by omega)).trans (d1 j h g))) (mTo.ix rfl (by omega) (by omega) (mTo.lt (mTo.ix rfl (by omega) (by omega) (mTo.lt (mTo.lt ?_)))))
      have cj : (nI j).toNatClampNeg = j := nI_clamp (by omega)
      rw [nI_1, mI_at cj, cj, if_pos rfl]
      refine ih (j + 1) _ _ (by omega) (by omega) (by omega) (fun e6 => ?_) ⟨hq.1, hq.2.1, hq.2.2.1, fun l hl => by rw [mI_no (fun z => hae z.symm)]; exact hq.2.2.2 l hl⟩ (fun p hp => ?_)
      · have := d3 e6
        have := sm_le (P := P) (n := j + 1) (5 - (j + 1))
        rw [show j + 1 + (5 - (j + 1)) = 5 by omega] at this
        have e7 : sm P (j + 1) = sm P j + P j := rfl
        rw [hx e6, pk_sub (by omega), e7]
        congr 1
        omega
      · rw [mI_at cj]
        by_cases z : p = j
        · rw [if_pos z, z]
        · rw [if_neg z]
          exact hr p (by omega)
  have main : mTo (mX10_loadPoints F e (nI i) a V) (fun p => rowP p.2 a s P) := by
    unfold mX10_loadPoints mX10_loadPoints_s
    exact go F 0 15 V (by omega) (Nat.zero_le _) (by omega) (fun _ => rfl) hq (fun p hp => absurd hp (Nat.not_lt_zero _))
  obtain ⟨p, e1, q⟩ := main
  exact ⟨p, e1, q, NX10_loadPoints (v := p.1) e1⟩
/-- the items that are used, plus 1 -/
def luN (m b : Nat) : Nat := if m < b + 1 then m else b + 1
def goalP (m : Nat) (P : Nat → Nat → Nat) (p : Nat) : Nat := if m = 0 then p else P 0 p
def pmS (V : mV) (s lu : Nat) (P : Nat → Nat → Nat) (G : Nat → Nat) : Prop := V.fI 7 10 = nI s ∧ V.fI 7 11 = nI lu - 1 ∧ (∀ i, i < lu → rowP V (71 + i) s (P i)) ∧ rowP V 76 s G
def qG (d : Nat → Int32) (m s : Nat) (P : Nat → Nat → Nat) : Prop := ∀ i, i < m → itP d s i (P i)
theorem goal_P {d : Nat → Int32} {m s : Nat} {P : Nat → Nat → Nat} (hd : qG d m s P) : isP s (goalP m P) := by
  unfold goalP
  by_cases z : m = 0
  · refine ⟨fun i hi => ?_, fun i j hij hj => ?_⟩
    · dsimp only
      rw [if_pos z]
      exact hi
    · dsimp only
      rw [if_pos z, if_pos z]
      omega
  · refine ⟨fun i hi => ?_, fun i j hij hj => ?_⟩
    · dsimp only
      rw [if_neg z]
      exact (hd 0 (by omega)).2.1.1 i hi
    · dsimp only
      rw [if_neg z, if_neg z]
      exact (hd 0 (by omega)).2.1.2 i j hij hj
theorem T_loadItems {F e s m b : Nat} {d : Nat → Int32} {P : Nat → Nat → Nat} {V : mV} (hF : 64 ≤ F) (he : 256 ≤ e) (hs : s ≤ 6) (hm : m ≤ 5) (hb : b < 2 ^ 20) (hd : qG d m s P) (hq : enQ V e s m (nI b) d) : mTo (mX10_loadItems F e V) (fun p => pmS p.2 s (luN m b) P (goalP m P) ∧ mAv (wX10_loadItems e) V p.2) := by
  have lm : luN m b ≤ m := by
    unfold luN
    by_cases z : m < b + 1
    · rw [if_pos z]
      omega
    · rw [if_neg z]
      omega
  have go1 : ∀ k' i (V : mV), luN m b < i + k' → i ≤ luN m b → enQ V e s m (nI b) d → V.fI 7 10 = nI s → V.fI 7 11 = nI (luN m b) - 1 → (∀ t, t < i → rowP V (71 + t) s (P t)) → (∀ p, p < 6 → V.rI 76 p = nI p) → mTo (mX10_loadItems_go F k' 1 e (nI i) V) (fun p => pmS p.2 s (luN m b) P (goalP m P)) := by
    intro k'
    induction k' with
    | zero => intro i V h1 h2; omega
    | succ k ih =>
      intro i V h1 h2 hq h10 h11 hr hg
      rw [mX10_loadItems_go, if_neg (by decide), if_pos rfl]
      unfold mX10_loadItems_b1
      rw [h11]
      refine mTo.ite (fun h => ?_) (fun h => ?_)
      · have h := (nI_hi (by omega) (by omega)).mp h
        have : i = luN m b := by omega
        subst this
        refine mTo.le (b := 0) hq.2.1 rfl (by omega) (by omega) (fun z => mTo.ret ⟨h10, h11, hr, fun p hp => ?_⟩) (fun z => ?_)
        · unfold goalP
          rw [if_pos (by omega)]
          exact hg p (by omega)
        · refine mTo.W (T_loadPoints (F := F) (i := 0) hF (a := 76) rfl (by omega) hs hm (by omega) (hd 0 (by omega)) hq) (fun a V1 _ q => mTo.ret ?_)
          obtain ⟨q1, q2⟩ := q
          have q2 : mAv (wX10_loadPoints e 76) V V1 := q2
          refine ⟨by rw [(q2.1 7 (by unfold wX10_loadPoints; omega)).1]; exact h10, by rw [(q2.1 7 (by unfold wX10_loadPoints; omega)).1]; exact h11, fun t ht p hp => ?_, fun p hp => ?_⟩
          · rw [(q2.1 (71 + t) (by unfold wX10_loadPoints; omega)).2.2.1]
            exact hr t ht p hp
          · unfold goalP
            rw [if_neg (by omega)]
            exact q1 p hp
      · have h : i < luN m b := Nat.lt_of_not_le fun z => h ((nI_hi (by omega) (by omega)).mpr z)
        refine mTo.ix rfl (by omega) (by omega) ?_
        rw [nI_clamp (by omega)]
        have l6 : mLen (71 + i) = 6 := by
          have : i = 0 ∨ i = 1 ∨ i = 2 ∨ i = 3 ∨ i = 4 := by omega
          rcases this with z | z | z | z | z <;> rw [z] <;> rfl
        refine mTo.W (T_loadPoints (F := F) (i := i) hF (a := 71 + i) l6 (by omega) hs hm (by omega) (hd i (by omega)) hq) (fun a V1 _ q => mTo.lt ?_)
        obtain ⟨q1, q2⟩ := q
        have q2 : mAv (wX10_loadPoints e (71 + i)) V V1 := q2
        rw [nI_1]
        refine ih (i + 1) V1 (by omega) (by omega) (hq.mv q2 (by unfold wX10_loadPoints; omega) (by unfold wX10_loadPoints; omega)) (by rw [(q2.1 7 (by unfold wX10_loadPoints; omega)).1]; exact h10) (by rw [(q2.1 7 (by unfold wX10_loadPoints; omega)).1]; exact h11) (fun t ht p hp => ?_) (fun p hp => ?_)
        · by_cases z : t = i
          · rw [z]
            exact q1 p hp
          · rw [(q2.1 (71 + t) (by unfold wX10_loadPoints; omega)).2.2.1]
            exact hr t (by omega) p hp
        · rw [(q2.1 76 (by unfold wX10_loadPoints; omega)).2.2.1]
          exact hg p hp
  have go0 : ∀ k' j (V : mV), 20 < j + k' → j ≤ 6 → enQ V e s m (nI b) d → V.fI 7 10 = nI s → V.fI 7 11 = nI (luN m b) - 1 → (∀ p, p < j → V.rI 76 p = nI p) → mTo (mX10_loadItems_go F k' 0 e (nI j) V) (fun p => pmS p.2 s (luN m b) P (goalP m P)) := by
    intro k'
    induction k' with
    | zero => intro j V h1 h2; omega
    | succ k ih =>
      intro j V h1 h2 hq h10 h11 hg
      rw [mX10_loadItems_go, if_pos rfl]
      unfold mX10_loadItems_b0
      refine mTo.le (a := 6) rfl rfl (by omega) (by omega) (fun h => ?_) (fun h => mTo.ix rfl (by omega) (by omega) (mTo.lt (mTo.lt ?_)))
      · have : j = 6 := by omega
        subst this
        exact go1 k 0 V (by omega) (Nat.zero_le _) hq h10 h11 (fun t ht => absurd ht (Nat.not_lt_zero _)) hg
      · rw [nI_1]
        refine ih (j + 1) _ (by omega) (by omega) ⟨hq.1, hq.2.1, hq.2.2.1, fun l hl => by rw [mI_no (by omega)]; exact hq.2.2.2 l hl⟩ h10 h11 (fun p hp => ?_)
        rw [mI_at (nI_clamp (by omega))]
        by_cases z : p = j
        · rw [if_pos z, z]
        · rw [if_neg z]
          exact hg p (by omega)
  have main : mTo (mX10_loadItems F e V) (fun p => pmS p.2 s (luN m b) P (goalP m P)) := by
    unfold mX10_loadItems mX10_loadItems_s
    refine mTo.lt (mTo.lt ?_)
    have f6 : (mF V 7 10 (V.fI e 1)).fI e 6 = nI m := by rw [mF_no (Or.inl (by omega)), hq.2.1]
    have f8 : (mF V 7 10 (V.fI e 1)).fI e 8 = nI b := by rw [mF_no (Or.inl (by omega)), hq.2.2.1]
    have lu : (if ((mF V 7 10 (V.fI e 1)).fI e 6 - (1 : Int32)) < (mF V 7 10 (V.fI e 1)).fI e 8 then ((mF V 7 10 (V.fI e 1)).fI e 6 - (1 : Int32)) else (mF V 7 10 (V.fI e 1)).fI e 8) = nI (luN m b) - 1 := by
      rw [f6, f8]
      unfold luN
      by_cases z : m ≤ b
      · rw [if_pos ((nI_hi (by omega) (by omega)).mpr z), if_pos (by omega)]
      · rw [if_neg (fun y => z ((nI_hi (by omega) (by omega)).mp y)), if_neg (by omega), nI_pred]
    rw [lu]
    exact go0 F 0 _ (by omega) (Nat.zero_le _) ⟨by rw [mF_no (Or.inl (by omega)), mF_no (Or.inl (by omega))]; exact hq.1, by rw [mF_no (Or.inl (by omega)), mF_no (Or.inl (by omega))]; exact hq.2.1, by rw [mF_no (Or.inl (by omega)), mF_no (Or.inl (by omega))]; exact hq.2.2.1, hq.2.2.2⟩ (by rw [mF_no (Or.inr (by decide)), mF_at]; exact hq.1) mF_at (fun p hp => absurd hp (Nat.not_lt_zero _))
  obtain ⟨p, e1, q⟩ := main
  exact ⟨p, e1, q, NX10_loadItems (v := p.1) e1⟩
theorem T_rankOf {F a s : Nat} {p : Nat → Nat} {V : mV} (hF : 128 ≤ F) (ha : mLen a = 6) (hs : s ≤ 6) (h10 : V.fI 7 10 = nI s) (hp : ∀ i, i < s → p i < 2 ^ 20) (hr : rowP V a s p) : mX10_rankOf F a V = some (nI (rk s p)) := by
  have go : ∀ k', (∀ i, (s - i) * 10 + 1 ≤ k' → i ≤ s → mX10_rankOf_go F k' 0 a (nI (rkN s p i)) (nI i) 0 0 V = some (nI (rk s p))) ∧ (∀ i j, (s - i - 1) * 10 + (s - j) + 2 ≤ k' → i < s → j ≤ s → i < j → mX10_rankOf_go F k' 1 a (nI (rkN s p i)) (nI i) (nI (lsN2 p i j)) (nI j) V = some (nI (rk s p))) := by
    intro k'
    induction k' with
    | zero => exact ⟨fun i h => by omega, fun i j h => by omega⟩
    | succ k ih =>
      obtain ⟨ih0, ih1⟩ := ih
      refine ⟨fun i h1 h2 => ?_, fun i j h1 h2 h3 h4 => ?_⟩
      · rw [mX10_rankOf_go, if_pos rfl]
        unfold mX10_rankOf_b0
        rw [h10]
        by_cases z : s ≤ i
        · rw [if_pos ((nI_leI (by omega) (by omega)).mpr z)]
          have : i = s := by omega
          rw [this]
          rfl
        · rw [if_neg (fun y => z ((nI_leI (by omega) (by omega)).mp y))]
          show mX10_rankOf_go F k 1 a (nI (rkN s p i)) (nI i) 0 (nI i + 1) V = _
          have l0 : ∀ j, j ≤ i + 1 → lsN2 p i j = 0 := fun j => by
            induction j with
            | zero => exact fun _ => rfl
            | succ j ih =>
              intro hj
              rw [lsN2, if_neg (by omega)]
              exact ih (by omega)
          have g := ih1 i (i + 1) (by omega) (by omega) (by omega) (by omega)
          rw [l0 (i + 1) (Nat.le_refl _)] at g
          rw [nI_1]
          exact g
      · rw [mX10_rankOf_go, if_neg (by decide), if_pos rfl]
        unfold mX10_rankOf_b1
        rw [h10]
        by_cases z : s ≤ j
        · have : j = s := by omega
          subst this
          rw [if_pos ((nI_leI (by omega) (by omega)).mpr z)]
          show mX10_rankOf_go F k 0 a (nI (rkN j p i) * (nI j - nI i) + nI (lsN2 p i j)) (nI i + 1) 0 0 V = _
          rw [pk_sub (by omega), nI_mulC, nI_add, nI_1]
          exact ih0 (i + 1) (by omega) (by omega)
        · rw [if_neg (fun y => z ((nI_leI (by omega) (by omega)).mp y)), if_neg (nI_in (by omega) (by omega)), if_neg (nI_in (by omega) (by omega)), nI_clamp (by omega), nI_clamp (by omega), hr i h2, hr j (by omega)]
          have g := ih1 i (j + 1) (by omega) h2 (by omega) (by omega)
          rw [lsN2] at g
          have a1 := hp i h2
          have a2 := hp j (by omega)
          by_cases c : p i ≤ p j
          · rw [if_pos ((nI_leI (by omega) (by omega)).mpr c)]
            rw [if_neg (by omega)] at g
            show mX10_rankOf_go F k 1 a (nI (rkN s p i)) (nI i) (nI (lsN2 p i j)) (nI j + 1) V = _
            rw [nI_1]
            exact g
          · rw [if_neg (fun y => c ((nI_leI (by omega) (by omega)).mp y))]
            rw [if_pos (by omega)] at g
            show mX10_rankOf_go F k 1 a (nI (rkN s p i)) (nI i) (nI (lsN2 p i j) + 1) (nI j + 1) V = _
            rw [nI_1, nI_1]
            exact g
  unfold mX10_rankOf mX10_rankOf_s
  exact (go F).1 0 (by omega) (Nat.zero_le _)
theorem unN_lt {s u : Nat} (h0 : 0 < s) : ∀ k l pt, pt + k ≤ s → unN s u k l pt < s
  | 0, _, _, _ => h0
  | k + 1, l, pt, h => by
    rw [unN]
    by_cases c : u.testBit pt = true
    · rw [if_pos c]
      exact unN_lt h0 k l (pt + 1) (by omega)
    · rw [if_neg c]
      by_cases z : l = 0
      · rw [if_pos z]
        omega
      · rw [if_neg z]
        exact unN_lt h0 k (l - 1) (pt + 1) (by omega)
theorem T_unusedPoint {F s u l : Nat} {V : mV} (hF : 64 ≤ F) (hs : s ≤ 6) (h10 : V.fI 7 10 = nI s) (hu : u < 2 ^ 6) (hl : l < 2 ^ 20) : mX10_unusedPoint F (nI u) (nI l) V = some (nI (unN s u s l 0)) := by
  have go : ∀ k' l pt, s < pt + k' → pt ≤ s → l < 2 ^ 20 → mX10_unusedPoint_go F k' 0 (nI u) (nI l) (nI pt) V = some (nI (unN s u (s - pt) l pt)) := by
    intro k'
    induction k' with
    | zero => intro l pt h1 h2; omega
    | succ k ih =>
      intro l pt h1 h2 hl
      rw [mX10_unusedPoint_go, if_pos rfl]
      unfold mX10_unusedPoint_b0
      rw [h10]
      by_cases z : s ≤ pt
      · rw [if_pos ((nI_leI (by omega) (by omega)).mpr z), show s - pt = 0 by omega]
        rfl
      · rw [if_neg (fun y => z ((nI_leI (by omega) (by omega)).mp y)), show s - pt = s - (pt + 1) + 1 by omega, unN]
        unfold mBN
        cases c : u.testBit pt with
        | true =>
          rw [nb_hasT (by omega) (by omega) c, if_pos rfl]
          show mX10_unusedPoint_go F k 0 (nI u) (nI l) (nI pt + 1) V = _
          rw [nI_1]
          exact ih l (pt + 1) (by omega) (by omega) hl
        | false =>
          rw [nb_hasF (by omega) (by omega) c, if_neg (c := false = true) (by decide)]
          by_cases y : l = 0
          · rw [if_pos y, y]
            rfl
          · obtain ⟨t, rfl⟩ : ∃ t, l = t + 1 := ⟨l - 1, by omega⟩
            rw [if_neg y]
            refine (if_neg (c := nI (t + 1) = 0) (nI_ne0 (by omega) (by omega))).trans ?_
            show mX10_unusedPoint_go F k 0 (nI u) (nI (t + 1) + -1) (nI pt + 1) V = _
            rw [nI_1, nI_m1', nI_pred]
            exact ih t (pt + 1) (by omega) (by omega) (by omega)
  unfold mX10_unusedPoint mX10_unusedPoint_s
  exact go F l 0 (by omega) (Nat.zero_le _) hl
theorem dcG_b {s r : Nat} (h0 : 0 < s) (hs : s ≤ 6) : ∀ i, (dcG s r i).1 < 2 ^ 6 ∧ (dcG s r i).2.length = i
  | 0 => ⟨show 0 < 2 ^ 6 by omega, rfl⟩
  | i + 1 => by
    obtain ⟨a, b⟩ := dcG_b (r := r) h0 hs i
    have c := unN_lt (u := (dcG s r i).1) h0 s (reD r (s - 1 - i) % (s - i)) 0 (by omega)
    rw [dcG]
    refine ⟨nb_or_lt a (nb_p2 (by omega)), ?_⟩
    rw [List.length_append, b]
    rfl
theorem dcG_pre {s r i : Nat} (h0 : 0 < s) (hs : s ≤ 6) : ∀ k t, t < i → (dcG s r (i + k)).2.getD t 0 = (dcG s r i).2.getD t 0
  | 0, _, _ => rfl
  | k + 1, t, h => by
    have := (dcG_b (r := r) h0 hs (i + k)).2
    show (dcG s r (i + k + 1)).2.getD t 0 = _
    rw [dcG, getDN_snoc, if_pos (by omega)]
    exact dcG_pre h0 hs k t h
theorem reD_le {r : Nat} : ∀ k, reD r k ≤ r
  | 0 => Nat.le_refl _
  | k + 1 => Nat.le_trans (Nat.div_le_self _ _) (reD_le k)
theorem T_writePoints {F a s r : Nat} {V : mV} (hF : 128 ≤ F) (ha : mLen a = 6) (ha7 : a ≠ 7) (h0 : 0 < s) (hs : s ≤ 6) (hr : r < 2 ^ 20) (h10 : V.fI 7 10 = nI s) : mTo (mX10_writePoints F (nI r) a V) (fun p => rowP p.2 a s (dcP s r) ∧ mAv (wX10_writePoints a) V p.2) := by
  have go1 : ∀ k' i (V : mV), s < i + k' → i ≤ s → V.fI 7 10 = nI s → (∀ t, t < i → V.rI a t = nI ((dcG s r i).2.getD t 0)) → (∀ t, i ≤ t → t < s → V.rI a t = nI (reD r (s - 1 - t) % (s - t))) → mTo (mX10_writePoints_go F k' 1 a 0 (nI (dcG s r i).1) (nI i) V) (fun p => rowP p.2 a s (dcP s r)) := by
    intro k'
    induction k' with
    | zero => intro i V h1 h2; omega
    | succ k ih =>
      intro i V h1 h2 h10 hA hB
      obtain ⟨u6, ul⟩ := dcG_b (r := r) h0 hs i
      rw [mX10_writePoints_go, if_neg (by decide), if_pos rfl]
      unfold mX10_writePoints_b1
      refine mTo.le h10 rfl (by omega) (by omega) (fun h => mTo.ret (fun t ht => ?_)) (fun h => mTo.ix rfl (by omega) (by omega) ?_)
      · have : i = s := by omega
        subst this
        exact hA t ht
      · have ci : (nI i).toNatClampNeg = i := nI_clamp (by omega)
        have dl : reD r (s - 1 - i) % (s - i) < s - i := Nat.mod_lt _ (by omega)
        have ur := unN_lt (u := (dcG s r i).1) h0 s (reD r (s - 1 - i) % (s - i)) 0 (by omega)
        rw [show V.rI a (nI i).toNatClampNeg = nI (reD r (s - 1 - i) % (s - i)) by rw [ci, hB i (Nat.le_refl _) h]]
        refine mTo.so (T_unusedPoint (by omega) hs h10 u6 (by omega)) (mTo.ix rfl (by omega) (by omega) (mTo.lt (mTo.ix rfl (by omega) (by omega) (mTo.lt (mTo.lt ?_)))))
        rw [mI_at ci, ci, if_pos rfl, nb_one (by omega), nb_or, nI_1]
        have g := ih (i + 1) (mI V a (nI i) (nI (unN s (dcG s r i).1 s (reD r (s - 1 - i) % (s - i)) 0)))
        rw [dcG] at g
        refine g (by omega) (by omega) h10 (fun t ht => ?_) (fun t h3 h4 => ?_)
        · rw [mI_at ci, getDN_snoc, ul]
          by_cases z : t = i
          · rw [if_pos z, if_neg (by omega), if_pos z]
          · rw [if_neg z, if_pos (by omega)]
            exact hA t (by omega)
        · rw [mI_at ci, if_neg (by omega)]
          exact hB t (by omega) h4
  have go0 : ∀ k' i (V : mV), 20 < k' + (s - i) → i ≤ s → V.fI 7 10 = nI s → (∀ t, i ≤ t → t < s → V.rI a t = nI (reD r (s - 1 - t) % (s - t))) → mTo (mX10_writePoints_go F k' 0 a (nI (reD r (s - i))) (nI i - 1) 0 V) (fun p => rowP p.2 a s (dcP s r)) := by
    intro k'
    induction k' with
    | zero => intro i V h1 h2; omega
    | succ k ih =>
      intro i V h1 h2 h10 hB
      rw [mX10_writePoints_go, if_pos rfl]
      unfold mX10_writePoints_b0
      cases i with
      | zero =>
        rw [if_pos (by decide)]
        exact go1 k 0 V (by omega) (Nat.zero_le _) h10 (fun t ht => absurd ht (Nat.not_lt_zero _)) hB
      | succ i =>
        have rl := reD_le (r := r) (s - (i + 1))
        have ci : (nI i).toNatClampNeg = i := nI_clamp (by omega)
        have e1 : s - 1 - i = s - (i + 1) := by omega
        have e2 : s - i = s - (i + 1) + 1 := by omega
        rw [nI_pred, if_neg (nI_pos (by omega)), h10, pk_sub (by omega), if_neg (nI_ne0 (by omega) (by omega)), pk_rem (by omega) (by omega) (by omega)]
        refine mTo.ix rfl (by omega) (by omega) (mTo.lt ?_)
        rw [show (mI V a (nI i) (nI (reD r (s - (i + 1)) % (s - i)))).fI 7 10 = nI s from h10, pk_sub (by omega), if_neg (nI_ne0 (by omega) (by omega)), pk_div (by omega) (by omega) (by omega)]
        refine mTo.lt (mTo.lt ?_)
        rw [nI_m1']
        have g := ih i (mI V a (nI i) (nI (reD r (s - (i + 1)) % (s - i)))) (by omega) (by omega) h10 (fun t h3 h4 => ?_)
        · have e3 : reD r (s - i) = reD r (s - (i + 1)) / (s - i) := by
            rw [e2]
            rfl
          rw [e3] at g
          exact g
        · rw [mI_at ci]
          by_cases z : t = i
          · rw [if_pos z, z, e1]
          · rw [if_neg z]
            exact hB t (by omega) h4
  have main : mTo (mX10_writePoints F (nI r) a V) (fun p => rowP p.2 a s (dcP s r)) := by
    unfold mX10_writePoints mX10_writePoints_s
    refine mTo.lt ?_
    rw [h10]
    have g := go0 F s V (by omega) (Nat.le_refl _) h10 (fun t h1 h2 => by omega)
    rw [Nat.sub_self] at g
    exact g
  obtain ⟨p, e1, q⟩ := main
  exact ⟨p, e1, q, NX10_writePoints (v := p.1) e1⟩
theorem T_codeOf6 {F a s k : Nat} {p : Nat → Nat} {V : mV} (hF : 64 ≤ F) (ha : mLen a = 6) (hk : k ≤ s) (hs : s ≤ 6) (hr : rowP V a s p) : mX10_codeOf F a (nI k) V = some (nI (cdN p k)) := by
  have go : ∀ k' j, k < j + k' → j ≤ k → mX10_codeOf_go F k' 0 a (nI k) (nI (cdN p j)) (nI j) V = some (nI (cdN p k)) := by
    intro k'
    induction k' with
    | zero => intro j h1 h2; omega
    | succ x ih =>
      intro j h1 h2
      rw [mX10_codeOf_go, if_pos rfl]
      unfold mX10_codeOf_b0
      by_cases z : k ≤ j
      · rw [if_pos ((nI_leI (by omega) (by omega)).mpr z)]
        have : j = k := by omega
        rw [this]
      · rw [if_neg (fun y => z ((nI_leI (by omega) (by omega)).mp y)), if_neg (nI_in (by omega) (by omega)), nI_clamp (by omega), hr j (by omega)]
        show mX10_codeOf_go F x 0 a (nI k) (nI (cdN p j) * 6 + nI (p j)) (nI j + 1) V = _
        rw [show (6 : Int32) = nI 6 from rfl, nI_mulC, nI_add, nI_1]
        exact ih (j + 1) (by omega) (by omega)
  unfold mX10_codeOf mX10_codeOf_s
  exact go F 0 (by omega) (Nat.zero_le _)
end
