/-! THE PURE PART, words: the next ones, by the class's methods. -/
section
theorem or_add {a b i : Nat} (h : b < 2 ^ i) : a * 2 ^ i ||| b = a * 2 ^ i + b := by
  have := Nat.two_pow_add_eq_or_of_lt h a
  rw [Nat.mul_comm] at this
  exact this.symm
theorem nI_m1' (k : Nat) : nI k + (-1 : Int32) = nI k - 1 := (Int32.sub_eq_add_neg _ _).symm
theorem bl_0 : ∀ k, bl k 0 = 0
  | 0 => rfl
  | k + 1 => by rw [bl, if_pos rfl]
theorem T_lettersOf {F w : Nat} (hF : 64 ≤ F) (hw : w < 512) : mX10_lettersOf F (nI w) = some (nI (lt w)) := by
  have sh : ∀ r, r < 512 → nI r >>> ((1 : Int32) &&& 31) = nI (r / 2) := fun r hr => by
    have := nb_shr (a := r) (j := 1) (by omega) (by omega)
    rw [Nat.pow_one] at this
    exact this
  have go : ∀ k k' c r, r < 2 ^ k → r < 512 → c + k < 100 → k < k' → mX10_lettersOf_go F k' 0 (nI c) (nI r) = some (nI (c + bl k r)) := by
    intro k
    induction k with
    | zero =>
      intro k' c r h1 h2 h3 h4
      obtain ⟨x, rfl⟩ : ∃ x, k' = x + 1 := ⟨k' - 1, by omega⟩
      have : r = 0 := by omega
      subst this
      rw [mX10_lettersOf_go, if_pos rfl]
      unfold mX10_lettersOf_b0
      rw [if_pos (by decide)]
      rfl
    | succ k ih =>
      intro k' c r h1 h2 h3 h4
      obtain ⟨x, rfl⟩ : ∃ x, k' = x + 1 := ⟨k' - 1, by omega⟩
      rw [mX10_lettersOf_go, if_pos rfl]
      unfold mX10_lettersOf_b0
      rw [bl]
      by_cases z : r = 0
      · rw [if_pos z, z, if_pos (by decide)]
        rfl
      · rw [if_neg z, if_neg (nI_nle (by omega) (by omega))]
        show mX10_lettersOf_go F x 0 (nI c + 1) (nI r >>> ((1 : Int32) &&& 31)) = _
        have p : (2 : Nat) ^ (k + 1) = 2 ^ k * 2 := Nat.pow_succ 2 k
        rw [sh r h2, nI_1, ih x (c + 1) (r / 2) (by omega) (by omega) (by omega) (by omega)]
        congr 2
        omega
  unfold mX10_lettersOf mX10_lettersOf_s
  show mX10_lettersOf_go F F 0 0 (nI w >>> ((1 : Int32) &&& 31)) = _
  rw [sh w hw]
  have := go 10 F 0 (w / 2) (by omega) (by omega) (by omega) (by omega)
  rw [Nat.zero_add] at this
  exact this
def nxS (V : mV) (l : List Nat) : Prop := V.fI 7 9 = nI l.length ∧ ∀ i, i < l.length → V.rI 83 i = nI (l.getD i 0)
theorem getDN_snoc (xs : List Nat) (v : Nat) (i : Nat) : (xs ++ [v]).getD i 0 = if i < xs.length then xs.getD i 0 else if i = xs.length then v else 0 := by
  rw [List.getD_eq_getElem?_getD, List.getD_eq_getElem?_getD, List.getElem?_append]
  by_cases h : i < xs.length
  · rw [if_pos h, if_pos h]
  · rw [if_neg h, if_neg h]
    by_cases e : i = xs.length
    · subst e
      rw [if_pos rfl, Nat.sub_self]
      rfl
    · rw [if_neg e]
      obtain ⟨k, hk⟩ : ∃ k, i - xs.length = k + 1 := ⟨i - xs.length - 1, by omega⟩
      rw [hk]
      rfl
theorem T_addNext {F x : Nat} {V : mV} {l : List Nat} (h : nxS V l) (hl : l.length < 96) (h1 : 0 < x) (h2 : x < 256) : mTo (mX10_addNext F (nI x) V) (fun p => nxS p.2 (l ++ [x])) := by
  unfold mX10_addNext
  refine mTo.le (a := 96) rfl h.1 (by omega) (by omega) (fun z => by omega) (fun _ => mTo.ltI (b := 1) rfl rfl (by omega) (by omega) (fun z => by omega) (fun _ => mTo.le (a := 256) rfl rfl (by omega) (by omega) (fun z => by omega) (fun _ => ?_)))
  rw [h.1]
  refine mTo.ix rfl hl (by omega) (mTo.lt (mTo.lt (mTo.ret ⟨?_, fun i hi => ?_⟩)))
  · rw [mF_at, List.length_append]
    show V.fI 7 9 + 1 = _
    rw [h.1]
    exact nI_1 _
  · rw [List.length_append] at hi
    have hi : i < l.length + 1 := hi
    show (mI V 83 (nI l.length) (nI x)).rI 83 i = _
    rw [mI_at (nI_clamp (by omega)), getDN_snoc]
    by_cases e : i = l.length
    · rw [if_pos e, if_neg (by omega), if_pos e]
    · rw [if_neg e, if_pos (by omega), h.2 i (by omega)]
theorem T_replaceAll_go {F b w x y : Nat} (hb : b ≤ 7) (hw : w < 2 ^ (b + 1)) (w0 : 0 < w) (hx : x < 32) (x0 : 0 < x) (hy : y < 32) (y0 : 0 < y) (hl : lt w + lt y ≤ b + lt x) : ∀ k k' l (V : mV), k < k' → k + lt x ≤ lt w + 1 → l.length + k ≤ 95 → nxS V l → mTo (mX10_replaceAll_go F k' 0 (nI w) (nI x) (nI y) (nI (lt x)) (nI (lt y)) (nI k - 1) V) (fun p => nxS p.2 (rpG w x y k l)) := by
  have p8 : (2 : Nat) ^ (b + 1) ≤ 2 ^ 8 := Nat.pow_le_pow_right (by decide) (by omega)
  have w7 := (lt_b w (by omega) w0).2.2
  obtain ⟨xl, xh, x7⟩ := lt_b x (by omega) x0
  obtain ⟨yl, yh, y7⟩ := lt_b y (by omega) y0
  intro k
  induction k with
  | zero =>
    intro k' l V h1 h2 h3 hS
    obtain ⟨z, rfl⟩ : ∃ z, k' = z + 1 := ⟨k' - 1, by omega⟩
    rw [mX10_replaceAll_go, if_pos rfl]
    unfold mX10_replaceAll_b0
    rw [if_pos (by decide)]
    exact mTo.ret hS
  | succ k ih =>
    intro k' l V h1 h2 h3 hS
    obtain ⟨z, rfl⟩ : ∃ z, k' = z + 1 := ⟨k' - 1, by omega⟩
    rw [mX10_replaceAll_go, if_pos rfl]
    unfold mX10_replaceAll_b0
    have e2 : (2 : Nat) ^ (lt y + 1) = 2 ^ lt y * 2 := Nat.pow_succ 2 _
    have md : w / 2 ^ k % 2 ^ lt x < 2 ^ lt x := Nat.mod_lt _ (Nat.two_pow_pos _)
    rw [nI_pred, if_neg (nI_pos (by omega)), nb_shr (by omega) (by omega), nb_full (by omega), nb_and, Nat.and_two_pow_sub_one_eq_mod]
    refine mTo.lt ?_
    rw [nb_one (by omega), nI_add, rpG]
    refine mTo.eqI rfl rfl (by omega) (by omega) (fun e => ?_) (fun e => mTo.lt ?_)
    · obtain ⟨b1, b2, b3⟩ := rpV_b hb hw w0 hx x0 hy y0 hl (show k + lt x ≤ lt w by omega) e
      have hle : w / 2 ^ (k + lt x) ≤ w := Nat.div_le_self _ _
      have tl := Nat.mod_lt w (Nat.two_pow_pos k)
      rw [nI_add, nb_shr (by omega) (by omega)]
      refine mTo.lt ?_
      rw [nb_one (by omega), pk_sub yl]
      refine mTo.lt ?_
      have pa : (2 : Nat) ^ lt y ≤ 2 ^ 7 := Nat.pow_le_pow_right (by decide) y7
      have pk7 : (2 : Nat) ^ k ≤ 2 ^ 7 := Nat.pow_le_pow_right (by decide) (by omega)
      have m1 : w / 2 ^ (k + lt x) * 2 ^ lt y ≤ 256 * 2 ^ 7 := Nat.mul_le_mul (by omega) pa
      have vb : w / 2 ^ (k + lt x) * 2 ^ lt y + (y - 2 ^ lt y) ≤ 2 ^ 16 := by omega
      have m2 : (w / 2 ^ (k + lt x) * 2 ^ lt y + (y - 2 ^ lt y)) * 2 ^ k ≤ 2 ^ 16 * 2 ^ 7 := Nat.mul_le_mul vb pk7
      have val : ((nI (w / 2 ^ (k + lt x)) <<< (nI (lt y) &&& 31) ||| nI (y - 2 ^ lt y)) <<< (nI k &&& 31) ||| nI w &&& ((1 : Int32) <<< (nI k &&& 31) - 1)) = nI (rpV w x y k) := by
        rw [nb_shl (by omega) (by omega), nb_or, or_add (by omega), nb_shl (by omega) (by omega), nb_full (by omega), nb_and, Nat.and_two_pow_sub_one_eq_mod, nb_or, or_add tl]
        rfl
      rw [val]
      refine mTo.W (T_addNext hS (by omega) b2 (by omega)) (fun a V1 _ q => mTo.lt ?_)
      rw [nI_m1', if_pos e]
      exact ih z (l ++ [rpV w x y k]) V1 (by omega) (by omega) (by rw [List.length_append]; show l.length + 1 + k ≤ 95; omega) q
    · rw [nI_m1', if_neg e]
      exact ih z l V (by omega) (by omega) (by omega) hS
theorem T_replaceAll {F e s m b w x y : Nat} {d : Nat → Int32} {V : mV} {l : List Nat} (hF : 64 ≤ F) (hb : b ≤ 7) (hw : w < 2 ^ (b + 1)) (w0 : 0 < w) (hx : x < 32) (x0 : 0 < x) (hy : y < 32) (y0 : 0 < y) (hq : enQ V e s m (nI b) d) (hS : nxS V l) (hl : l.length ≤ 87) : mTo (mX10_replaceAll F e (nI w) (nI x) (nI y) V) (fun p => nxS p.2 (rpL b w x y l) ∧ mAv (wX10_replaceAll e) V p.2) := by
  have p8 : (2 : Nat) ^ (b + 1) ≤ 2 ^ 8 := Nat.pow_le_pow_right (by decide) (by omega)
  have w7 := (lt_b w (by omega) w0).2.2
  have x7 := (lt_b x (by omega) x0).2.2
  have y7 := (lt_b y (by omega) y0).2.2
  have main : mTo (mX10_replaceAll F e (nI w) (nI x) (nI y) V) (fun p => nxS p.2 (rpL b w x y l)) := by
    unfold mX10_replaceAll mX10_replaceAll_s
    refine mTo.so (T_lettersOf (by omega) (by omega)) (mTo.so (T_lettersOf (by omega) (by omega)) (mTo.so (T_lettersOf (by omega) (by omega)) ?_))
    rw [hq.2.2.1]
    unfold rpL
    have ti : (nI (lt w) - nI (lt x) + nI (lt y)).toInt = (lt w : Int) - lt x + lt y := by
      rw [i32add (by rw [pk_sub_toInt (by omega) (by omega), nI_toInt (by omega)]; omega) (by rw [pk_sub_toInt (by omega) (by omega), nI_toInt (by omega)]; omega), pk_sub_toInt (by omega) (by omega), nI_toInt (by omega)]
    refine mTo.ite (fun z => mTo.lt ?_) (fun z => mTo.ret ?_)
    · have z := i32le.mp z
      rw [ti, nI_toInt (by omega)] at z
      by_cases c : lt x ≤ lt w
      · rw [if_pos ⟨by omega, c⟩]
        have e : nI (lt w) - nI (lt x) = nI (lt w - lt x + 1) - 1 := by rw [nI_pred, pk_sub c]
        rw [e]
        exact T_replaceAll_go hb hw w0 hx x0 hy y0 (by omega) _ F l V (by omega) (by omega) (by omega) hS
      · rw [if_neg (fun y => c y.2)]
        obtain ⟨k, rfl⟩ : ∃ k, F = k + 1 := ⟨F - 1, by omega⟩
        rw [mX10_replaceAll_go, if_pos rfl]
        unfold mX10_replaceAll_b0
        rw [if_pos (pk_sneg (by omega) (by omega))]
        exact mTo.ret hS
    · rw [if_neg (fun y => z (i32le.mpr (by rw [ti, nI_toInt (by omega)]; omega)))]
      exact hS
  obtain ⟨p, e1, q⟩ := main
  exact ⟨p, e1, q, NX10_replaceAll (v := p.1) e1⟩
/-- the next ones of w -/
def nxl (A B : Nat → Nat) (b m w : Nat) : List Nat := nxG A B b w (m - 1)
theorem nxl_mem {A B : Nat → Nat} {b w u m : Nat} {d : Nat → Int32} (hq : qW d m A B) (hb : b ≤ 7) (hw : w < 2 ^ (b + 1)) (h0 : 0 < w) : u ∈ nxl A B b m w ↔ stp A B b m w u := by
  unfold nxl
  rcases Nat.eq_zero_or_pos m with z | z
  · subst z
    show u ∈ nxG A B b w 0 ↔ _
    rw [nxG]
    exact ⟨fun h => (List.not_mem_nil h).elim, fun ⟨i, _, _, _, _, _, h1, h2, _⟩ => by omega⟩
  · have := nxG_mem (u := u) hq hb hw h0 (m - 1) (by omega)
    rw [Nat.sub_add_cancel z] at this
    exact this
theorem nxl_len {A B : Nat → Nat} {b w m : Nat} (hm : m ≤ 6) (hw : w < 256) (h0 : 0 < w) : (nxl A B b m w).length ≤ 80 := by
  have := nxG_len (A := A) (B := B) (b := b) hw h0 (m - 1)
  unfold nxl
  omega
theorem T_findNext {F e s m b w : Nat} {A B : Nat → Nat} {d : Nat → Int32} {V : mV} (hF : 64 ≤ F) (he : 256 ≤ e) (hb : b ≤ 7) (hm : m ≤ 6) (hw : w < 2 ^ (b + 1)) (w0 : 0 < w) (hd : qW d m A B) (hq : enQ V e s m (nI b) d) : mTo (mX10_findNext F e (nI w) V) (fun p => nxS p.2 (nxl A B b m w) ∧ mAv (wX10_findNext e) V p.2) := by
  have p8 : (2 : Nat) ^ (b + 1) ≤ 2 ^ 8 := Nat.pow_le_pow_right (by decide) (by omega)
  have go : ∀ k' j (V : mV), m < j + k' → (j + 1 ≤ m ∨ j = 0) → enQ V e s m (nI b) d → nxS V (nxG A B b w j) → mTo (mX10_findNext_go F k' 0 e (nI w) (nI (j + 1)) V) (fun p => nxS p.2 (nxl A B b m w)) := by
    intro k'
    induction k' with
    | zero =>
      intro j V h1 h2 hq hS
      omega
    | succ k ih =>
      intro j V h1 h2 hq hS
      rw [mX10_findNext_go, if_pos rfl]
      unfold mX10_findNext_b0
      refine mTo.le hq.2.1 rfl (by omega) (by omega) (fun h => mTo.ret ?_) (fun h => ?_)
      · have : m - 1 = j := by omega
        unfold nxl
        rw [this]
        exact hS
      · obtain ⟨d1, d2, a1, a2, a6, a7, a3⟩ := hd (j + 1) h
        obtain ⟨a4, a5⟩ := a3 (by omega)
        have r1 := (hq.2.2.2 (5 * (j + 1)) (by omega)).trans d1
        have r2 := (hq.2.2.2 (5 * (j + 1) + 1) (by omega)).trans d2
        have l1 := nxG_len (A := A) (B := B) (b := b) (show w < 256 by omega) w0 j
        have l2 := rpL_len (b := b) (x := A (j + 1)) (y := B (j + 1)) (l := nxG A B b w j) (show w < 256 by omega) w0
        refine mTo.so (T_item (k := 0) hq.2.1 (by omega) h (by omega) rfl r1) (mTo.so (T_item (k := 1) hq.2.1 (by omega) h (by omega) rfl r2) ?_)
        refine mTo.W (T_replaceAll hF hb hw w0 a4 a1 a5 a2 hq hS (by omega)) (fun a V1 _ q => ?_)
        obtain ⟨q1, q2⟩ := q
        have q2 : mAv (wX10_replaceAll e) V V1 := q2
        have hq1 := hq.mv q2 (by unfold wX10_replaceAll; omega) (by unfold wX10_replaceAll; omega)
        have r3 := (hq1.2.2.2 (5 * (j + 1)) (by omega)).trans d1
        have r4 := (hq1.2.2.2 (5 * (j + 1) + 1) (by omega)).trans d2
        refine mTo.so (T_item (k := 1) hq1.2.1 (by omega) h (by omega) rfl r4) (mTo.so (T_item (k := 0) hq1.2.1 (by omega) h (by omega) rfl r3) ?_)
        refine mTo.W (T_replaceAll hF hb hw w0 a5 a2 a4 a1 hq1 q1 (by omega)) (fun a V2 _ q => mTo.lt ?_)
        obtain ⟨q3, q4⟩ := q
        have q4 : mAv (wX10_replaceAll e) V1 V2 := q4
        rw [nI_1]
        exact ih (j + 1) V2 (by omega) (Or.inl (by omega)) (hq1.mv q4 (by unfold wX10_replaceAll; omega) (by unfold wX10_replaceAll; omega)) q3
  have main : mTo (mX10_findNext F e (nI w) V) (fun p => nxS p.2 (nxl A B b m w)) := by
    unfold mX10_findNext mX10_findNext_s
    refine mTo.lt ?_
    exact go F 0 _ (by omega) (Or.inr rfl) ⟨by rw [mF_no (Or.inl (by omega))]; exact hq.1, by rw [mF_no (Or.inl (by omega))]; exact hq.2.1, by rw [mF_no (Or.inl (by omega))]; exact hq.2.2.1, hq.2.2.2⟩ ⟨mF_at, fun i hi => absurd hi (Nat.not_lt_zero _)⟩
  obtain ⟨p, e1, q⟩ := main
  exact ⟨p, e1, q, NX10_findNext (v := p.1) e1⟩
end
