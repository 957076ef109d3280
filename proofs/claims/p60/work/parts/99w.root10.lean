/-! THE PURE PART, roots: the judges; no witness and no refutation together. -/
section
theorem i32N {x : Int32} (h : 0 ≤ x.toInt) : x = nI x.toInt.toNat := by
  apply Int32.toInt_inj.mp
  have := Int32.toInt_lt x
  rw [nI_toInt (by omega)]
  omega
theorem shJ_e : ∀ k, k < 17 → ((nI k).toInt64 &&& 63).toBitVec.smod 64 = BitVec.ofNat 64 k ∧ BitVec.twoPow 64 k = (jO ((2 ^ k : Nat) : Int)).toBitVec ∧ (BitVec.ofNat 64 k).toNat = k := by decide +kernel
theorem shJ {y : Int64} {k : Nat} (hk : k < 17) : y <<< ((nI k).toInt64 &&& 63) = y * jO ((2 ^ k : Nat) : Int) := by
  obtain ⟨e1, e2, e3⟩ := shJ_e k hk
  apply Int64.toBitVec_inj.mp
  show y.toBitVec <<< (((nI k).toInt64 &&& 63).toBitVec.smod 64) = y.toBitVec * (jO ((2 ^ k : Nat) : Int)).toBitVec
  rw [e1, ← e2, BitVec.shiftLeft_eq', e3, BitVec.shiftLeft_eq_mul_twoPow]
def kX (xs : List Int32) (j : Nat) : Nat := (xs.getD (2 * j) 0).toInt.toNat
def iX (xs : List Int32) (j : Nat) : Nat := (xs.getD (2 * j + 1) 0).toInt.toNat
def vldP (xs : List Int32) (j : Nat) : Prop := xs.getD (2 * j) 0 = nI (kX xs j) ∧ kX xs j ≤ 16 ∧ xs.getD (2 * j + 1) 0 = nI (iX xs j) ∧ iX xs j < 2 ^ kX xs j
def ordP (xs : List Int32) (j : Nat) : Prop := (iX xs j + 1) * 2 ^ kX xs (j + 1) ≤ iX xs (j + 1) * 2 ^ kX xs j
def partsOK (ch : List (List Int × Nat)) (b : Nat) (xs : List Int32) : Prop := xs.length % 2 = 0 ∧ (∀ j, 2 * j < xs.length → vldP xs j) ∧ (∀ j, 2 * j + 2 < xs.length → ordP xs j) ∧ b ≤ xs.length / 2 ∧ ∀ j, 2 * j < xs.length → 1 ≤ rtN ch (kX xs j) (iX xs j)
def signsOK (ch : List (List Int × Nat)) (b : Nat) (xs : List Int32) : Prop := xs.length = 2 * ch.length ∧ (∀ j, j < xs.length → xs.getD j 0 = sgR ch j) ∧ rtN ch 0 0 < b
theorem T_areParts {F r : Nat} {Ln : Nat → Nat} {V : mV} {xs : List Int32} (hF : 4096 ≤ F) (hR : rowIs Ln V r xs) (hl : xs.length % 2 = 0) : mTo (mX8_areParts F Ln r V) (fun v => (v = 0 ∨ v = 1) ∧ (v ≠ 0 ↔ ∀ j, 2 * j < xs.length → vldP xs j)) := by
  have n := hR.n
  have go : ∀ k' j, xs.length < 2 * j + k' → 2 * j ≤ xs.length → (∀ i, i < j → vldP xs i) → mTo (mX8_areParts_go F k' 0 Ln r (nI (2 * j)) V) (fun v => (v = 0 ∨ v = 1) ∧ (v ≠ 0 ↔ ∀ j, 2 * j < xs.length → vldP xs j)) := by
    intro k'
    induction k' with
    | zero => intro j h; omega
    | succ k ih =>
      intro j h1 h2 h3
      rw [mX8_areParts_go, if_pos rfl]
      unfold mX8_areParts_b0
      have no : ¬ vldP xs j → 2 * j < xs.length → mTo (some (0 : Int32)) (fun v => (v = 0 ∨ v = 1) ∧ (v ≠ 0 ↔ ∀ j, 2 * j < xs.length → vldP xs j)) := fun a b => mTo.ret ⟨Or.inl rfl, fun z => absurd rfl z, fun z => absurd (z j b) a⟩
      refine mTo.le hR.1 rfl (by omega) (by omega) (fun z => mTo.ret ⟨Or.inr rfl, fun _ i hi => h3 i (by omega), fun _ => (by decide : (1 : Int32) ≠ 0)⟩) (fun z => mTo.so (T_rAt hR (by omega)) ?_)
      rw [nI_1]
      refine mTo.so (T_rAt hR (by omega)) ?_
      have zero : (0 : Int32).toInt = 0 := rfl
      have s16 : (16 : Int32).toInt = 16 := rfl
      refine mTo.ite (fun y => no (fun w => ?_) z) (fun y => mTo.ite (fun x => no (fun w => ?_) z) (fun x => mTo.ite (fun u => no (fun w => ?_) z) (fun u => ?_)))
      · rw [w.1] at y
        exact nI_pos (by have := w.2.1; omega) y
      · rw [w.1] at x
        have := (nI_ltI (a := 16) (b := kX xs j) (by omega) (by have := w.2.1; omega)).mp x
        have := w.2.1
        omega
      · rw [w.2.2.1] at u
        have p : iX xs j < 2 ^ 16 := Nat.lt_of_lt_of_le w.2.2.2 (Nat.pow_le_pow_right (by decide) w.2.1)
        exact nI_pos (by omega) u
      · have y0 : 0 ≤ (xs.getD (2 * j) 0).toInt := by
          have := Int32.not_lt.mp y
          have := Int32.le_iff_toInt_le.mp this
          omega
        have x0 : (xs.getD (2 * j) 0).toInt ≤ 16 := by
          have := Int32.not_lt.mp x
          have := Int32.le_iff_toInt_le.mp this
          omega
        have u0 : 0 ≤ (xs.getD (2 * j + 1) 0).toInt := by
          have := Int32.not_lt.mp u
          have := Int32.le_iff_toInt_le.mp this
          omega
        have e1 := i32N y0
        have e2 := i32N u0
        have k16 : kX xs j ≤ 16 := by unfold kX; omega
        have b2 := Int32.toInt_lt (xs.getD (2 * j + 1) 0)
        have sh : (1 : Int32) <<< ((xs.getD (2 * j) 0) &&& 31) = nI (2 ^ kX xs j) := by
          rw [e1]
          exact nb_one (by unfold kX at k16; omega)
        have p2 : (2 : Nat) ^ kX xs j ≤ 2 ^ 16 := Nat.pow_le_pow_right (by decide) k16
        rw [sh]
        refine mTo.ltI e2 rfl (by omega) (by omega) (fun w => mTo.lt ?_) (fun w => no (fun q => ?_) z)
        · rw [show (2 : Int32) = nI 2 from rfl, nI_add, show 2 * j + 2 = 2 * (j + 1) by omega]
          refine ih (j + 1) (by omega) (by omega) (fun i hi => ?_)
          by_cases e : i = j
          · rw [e]
            exact ⟨e1, k16, e2, w⟩
          · exact h3 i (by omega)
        · have := q.2.2.2
          unfold iX at this
          omega
  unfold mX8_areParts mX8_areParts_s
  exact go F 0 (by omega) (by omega) (fun i hi => absurd hi (Nat.not_lt_zero _))
theorem T_areOrdered {F r : Nat} {Ln : Nat → Nat} {V : mV} {xs : List Int32} (hF : 4096 ≤ F) (hR : rowIs Ln V r xs) (hl : xs.length % 2 = 0) (hv : ∀ j, 2 * j < xs.length → vldP xs j) : mTo (mX8_areOrdered F Ln r V) (fun v => (v = 0 ∨ v = 1) ∧ (v ≠ 0 ↔ ∀ j, 2 * j + 2 < xs.length → ordP xs j)) := by
  have n := hR.n
  have go : ∀ k' j, xs.length < 2 * j + k' → (∀ i, i < j → 2 * i + 2 < xs.length → ordP xs i) → 2 * j ≤ xs.length → mTo (mX8_areOrdered_go F k' 0 Ln r (nI (2 * j + 2)) V) (fun v => (v = 0 ∨ v = 1) ∧ (v ≠ 0 ↔ ∀ j, 2 * j + 2 < xs.length → ordP xs j)) := by
    intro k'
    induction k' with
    | zero => intro j h; omega
    | succ k ih =>
      intro j h1 h3 h4
      rw [mX8_areOrdered_go, if_pos rfl]
      unfold mX8_areOrdered_b0
      refine mTo.le hR.1 rfl (by omega) (by omega) (fun z => mTo.ret ⟨Or.inr rfl, fun _ i hi => h3 i (by omega) hi, fun _ => (by decide : (1 : Int32) ≠ 0)⟩) (fun z => ?_)
      obtain ⟨a1, a2, a3, a4⟩ := hv j (by omega)
      obtain ⟨b1, b2, b3, b4⟩ := hv (j + 1) (by omega)
      have p1 : (2 : Nat) ^ kX xs j ≤ 2 ^ 16 := Nat.pow_le_pow_right (by decide) a2
      have p2 : (2 : Nat) ^ kX xs (j + 1) ≤ 2 ^ 16 := Nat.pow_le_pow_right (by decide) b2
      have x1 : nI (2 * j + 2) - 1 = nI (2 * j + 1) := nI_pred _
      have x2 : nI (2 * j + 2) - 2 = nI (2 * j) := by
        have := nI_add (2 * j) 2
        rw [← this]
        exact Int32.add_sub_cancel (nI (2 * j)) (nI 2)
      rw [x1, x2, nI_1]
      refine mTo.so (T_rAt hR (by omega)) (mTo.so (T_rAt hR (by omega)) (mTo.lt (mTo.so (T_rAt hR (by omega)) (mTo.so (T_rAt hR (by omega)) (mTo.lt ?_)))))
      rw [show 2 * j + 2 = 2 * (j + 1) by omega, a1, a3, b1, b3, shJ (by omega), shJ (by omega), jO_32, jO_32, nI_toInt (by omega), nI_toInt (by omega), show (1 : Int64) = jO 1 from rfl, jO_add, jO_mul, jO_mul]
      have m1 : (iX xs j + 1) * 2 ^ kX xs (j + 1) ≤ 2 ^ 16 * 2 ^ 16 := Nat.mul_le_mul (by omega) p2
      have m2 : iX xs (j + 1) * 2 ^ kX xs j ≤ 2 ^ 16 * 2 ^ 16 := Nat.mul_le_mul (by omega) p1
      have e1 : ((iX xs j : Int) + 1) * ((2 ^ kX xs (j + 1) : Nat) : Int) = (((iX xs j + 1) * 2 ^ kX xs (j + 1) : Nat) : Int) := by rw [Int.natCast_mul]; rfl
      have e2 : (iX xs (j + 1) : Int) * ((2 ^ kX xs j : Nat) : Int) = ((iX xs (j + 1) * 2 ^ kX xs j : Nat) : Int) := by rw [Int.natCast_mul]
      rw [e1, e2]
      have c := cmpge (x := ((iX xs (j + 1) * 2 ^ kX xs j : Nat) : Int)) (y := (((iX xs j + 1) * 2 ^ kX xs (j + 1) : Nat) : Int)) (by rw [Int.natAbs_natCast]; omega) (by rw [Int.natAbs_natCast]; omega)
      refine mTo.ite (fun y => mTo.lt ?_) (fun y => mTo.ret ⟨Or.inl rfl, fun w => absurd rfl w, fun w => absurd (c.mpr ?_) y⟩)
      · have y := c.mp y
        rw [show (2 : Int32) = nI 2 from rfl, nI_add, show 2 * (j + 1) + 2 = 2 * (j + 1) + 2 from rfl]
        refine ih (j + 1) (by omega) (fun i hi hi2 => ?_) (by omega)
        by_cases e : i = j
        · rw [e]
          unfold ordP
          omega
        · exact h3 i (by omega) hi2
      · have := w j (by omega)
        unfold ordP at this
        omega
  unfold mX8_areOrdered mX8_areOrdered_s
  exact go F 0 (by omega) (fun i hi => absurd hi (Nat.not_lt_zero _)) (by omega)
theorem nI_half {n : Nat} (h : n < 2 ^ 30) : nI n / 2 = nI (n / 2) ∧ (nI n - nI n / 2 * 2 = 0 ↔ n % 2 = 0) := by
  have e1 : (nI n / 2).toInt = ((n / 2 : Nat) : Int) := by
    rw [Int32.toInt_div_of_ne_right _ _ (by decide), nI_toInt (by omega)]
    show (n : Int).tdiv 2 = _
    rw [Int.tdiv_eq_ediv_of_nonneg (by omega)]
    omega
  have e2 : nI n / 2 = nI (n / 2) := by
    apply Int32.toInt_inj.mp
    rw [e1, nI_toInt (by omega)]
  refine ⟨e2, ?_⟩
  rw [irem_eq_mod]
  have e3 : (nI n % 2).toInt = ((n % 2 : Nat) : Int) := by
    rw [i32rem (by rw [nI_toInt (by omega)]; omega), nI_toInt (by omega)]
    show (n : Int) % 2 = _
    omega
  constructor
  · intro z
    rw [z] at e3
    have : (0 : Int32).toInt = 0 := rfl
    omega
  · intro z
    apply Int32.toInt_inj.mp
    rw [e3, z]
    rfl
theorem T_judgeParts {F e r s m b : Nat} {Ln : Nat → Nat} {d : Nat → Int32} {xs : List Int32} {V : mV} (hF : 2 ^ 22 ≤ F) (he : 256 ≤ e) (hr : 100 ≤ r) (hm : m ≤ 16) (hb : b < 2 ^ 20) (hd : qR d m) (hq : enQ V e s m (nI b) d) (hR : rowIs Ln V r xs) : mTo (mX8_judgeParts F Ln e r V) (fun p => p.1 = 0 ↔ partsOK (chnR d m) b xs) := by
  have n := hR.n
  obtain ⟨_, ok⟩ := chnR_ok hd
  obtain ⟨h1, h2⟩ := nI_half (n := xs.length) (by omega)
  have no : ∀ {P : Prop} {c : Int32}, c ≠ 0 → c = 0 → P := fun h z => absurd z h
  unfold mX8_judgeParts mX8_judgeParts_s
  rw [hR.1, h1]
  rw [h1] at h2
  refine mTo.ite (fun y => ?_) (fun y => mTo.ret ⟨fun z => no (c := 1) (by decide) z, fun z => absurd (h2.mpr z.1) y⟩)
  have ev := h2.mp y
  refine mTo.N (T_areParts (by omega) hR ev) (fun v _ q => mTo.tf q (fun hn => mTo.ret ⟨fun z => no (c := 1) (by decide) z, fun z => absurd z.2.1 hn⟩) (fun hv => ?_))
  refine mTo.N (T_areOrdered (by omega) hR ev hv) (fun v _ q => mTo.tf q (fun hn => mTo.ret ⟨fun z => no (c := 2) (by decide) z, fun z => absurd z.2.2.1 hn⟩) (fun ho => ?_))
  refine mTo.le hq.2.2.1 rfl (by omega) (by omega) (fun hbl => ?_) (fun z => mTo.ret ⟨fun z => no (c := 3) (by decide) z, fun w => by have := w.2.2.2.1; omega⟩)
  obtain ⟨p, p1, p2⟩ := T_buildChain hF he hm hq hd
  have fr := NX8_buildChain (v := p.1) (V1 := p.2) p1
  refine mTo.W (Q := fun x => x = p) ⟨p, p1, rfl⟩ (fun v V1 _ x => ?_)
  have eV : V1 = p.2 := congrArg Prod.snd x
  rw [eV]
  have hR1 : rowIs Ln p.2 r xs := hR.mv fr (by unfold wX8_buildChain; omega) (by unfold wX8_buildChain; omega)
  have go : ∀ k' j, xs.length < 2 * j + k' → 2 * j ≤ xs.length → (∀ i, i < j → 1 ≤ rtN (chnR d m) (kX xs i) (iX xs i)) → mTo (mX8_judgeParts_go F k' 0 Ln r (nI (2 * j)) p.2) (fun p => p.1 = 0 ↔ partsOK (chnR d m) b xs) := by
    intro k'
    induction k' with
    | zero => intro j h; omega
    | succ k ih =>
      intro j c1 c2 c3
      rw [mX8_judgeParts_go, if_pos rfl]
      unfold mX8_judgeParts_b0
      refine mTo.le hR1.1 rfl (by omega) (by omega) (fun z => mTo.ret ⟨fun _ => ⟨ev, hv, ho, hbl, fun i hi => c3 i (by omega)⟩, fun _ => rfl⟩) (fun z => mTo.so (T_rAt hR1 (by omega)) ?_)
      rw [nI_1]
      obtain ⟨a1, a2, a3, a4⟩ := hv j (by omega)
      refine mTo.so (T_rAt hR1 (by omega)) ?_
      rw [a1, a3]
      refine mTo.so (T_rootsOfPart (by omega) p2 ok a2 a4) ?_
      have rl : rtN (chnR d m) (kX xs j) (iX xs j) ≤ 4 := Nat.le_trans (Nat.sub_le _ _) (VG_le ok _ _)
      refine mTo.le (a := 1) rfl rfl (by omega) (by omega) (fun w => mTo.lt ?_) (fun w => mTo.ret ⟨fun z => no (c := 4) (by decide) z, fun q => by have := q.2.2.2.2 j (by omega); omega⟩)
      rw [show (2 : Int32) = nI 2 from rfl, nI_add, show 2 * j + 2 = 2 * (j + 1) by omega]
      refine ih (j + 1) (by omega) (by omega) (fun i hi => ?_)
      by_cases f : i = j
      · rw [f]
        exact w
      · exact c3 i (by omega)
  exact go F 0 (by omega) (by omega) (fun i hi => absurd hi (Nat.not_lt_zero _))
theorem T_judgeSigns {F e r s m b : Nat} {Ln : Nat → Nat} {d : Nat → Int32} {xs : List Int32} {V : mV} (hF : 2 ^ 22 ≤ F) (he : 256 ≤ e) (hr : 100 ≤ r) (hm : m ≤ 16) (hb : b < 2 ^ 20) (hd : qR d m) (hq : enQ V e s m (nI b) d) (hR : rowIs Ln V r xs) : mTo (mX8_judgeSigns F Ln e r V) (fun p => p.1 = 0 ↔ signsOK (chnR d m) b xs) := by
  have n := hR.n
  obtain ⟨_, ok⟩ := chnR_ok hd
  have no : ∀ {P : Prop} {c : Int32}, c ≠ 0 → c = 0 → P := fun h z => absurd z h
  obtain ⟨_, l4⟩ := okC_d ok
  unfold mX8_judgeSigns mX8_judgeSigns_s
  obtain ⟨p, p1, p2⟩ := T_buildChain hF he hm hq hd
  have fr := NX8_buildChain (v := p.1) (V1 := p.2) p1
  refine mTo.W (Q := fun x => x = p) ⟨p, p1, rfl⟩ (fun v V1 _ x => ?_)
  have eV : V1 = p.2 := congrArg Prod.snd x
  rw [eV]
  have hR1 : rowIs Ln p.2 r xs := hR.mv fr (by unfold wX8_buildChain; omega) (by unfold wX8_buildChain; omega)
  have hq1 : enQ p.2 e s m (nI b) d := enQ.mv hq fr (by unfold wX8_buildChain; omega) (by unfold wX8_buildChain; omega)
  have rl : rtN (chnR d m) 0 0 ≤ 4 := Nat.le_trans (Nat.sub_le _ _) (VG_le ok _ _)
  have tw : (2 : Int32) * p.2.fI 6 8 = nI (2 * (chnR d m).length) := by
    rw [p2.1]
    exact nI_mulC 2 _
  have go : xs.length = 2 * (chnR d m).length → ∀ k' j, xs.length < j + k' → j ≤ xs.length → (∀ i, i < j → xs.getD i 0 = sgR (chnR d m) i) → mTo (mX8_judgeSigns_go F k' 0 Ln e r (nI j) p.2) (fun p => p.1 = 0 ↔ signsOK (chnR d m) b xs) := by
    intro hl k'
    induction k' with
    | zero => intro j h; omega
    | succ k ih =>
      intro j c1 c2 c3
      rw [mX8_judgeSigns_go, if_pos rfl]
      unfold mX8_judgeSigns_b0
      refine mTo.le hR1.1 rfl (by omega) (by omega) (fun z => mTo.so (T_rootsOfPart (k := 0) (i := 0) (by omega) p2 ok (by omega) (by decide)) ?_) (fun z => mTo.so (T_rAt hR1 (by omega)) (mTo.so (T_signInRow (by omega) p2 ok (by omega)) (mTo.ite (fun y => mTo.lt ?_) (fun y => mTo.ret ⟨fun z => no (c := 2) (by decide) z, fun q => absurd (q.2.1 j (by omega)) y⟩))))
      · refine mTo.le hq1.2.2.1 rfl (by omega) (by omega) (fun w => mTo.ret ⟨fun z => no (c := 3) (by decide) z, fun q => by have := q.2.2; omega⟩) (fun w => mTo.ret ⟨fun _ => ⟨hl, fun i hi => c3 i (by omega), w⟩, fun _ => rfl⟩)
      · rw [nI_1]
        refine ih (j + 1) (by omega) (by omega) (fun i hi => ?_)
        by_cases f : i = j
        · rw [f]
          exact y
        · exact c3 i (by omega)
  refine mTo.eqI hR1.1 tw (by omega) (by omega) (fun z => go z F 0 (by omega) (by omega) (fun i hi => absurd hi (Nat.not_lt_zero _))) (fun z => mTo.ret ⟨fun w => no (c := 1) (by decide) w, fun q => absurd q.1 z⟩)
/-- the place of a part's lower end among 65536 -/
def plc (k i : Nat) : Nat := i * 2 ^ (16 - k)
theorem VG_16 {ch : List (List Int × Nat)} (ok : okC ch) {k : Nat} (hk : k ≤ 16) (i : Nat) : VG ch k i = VG ch 16 (plc k i) := by
  have := VG_up ok k i (16 - k)
  rw [show k + (16 - k) = 16 by omega] at this
  exact this.symm
theorem plc_le {k i : Nat} (hk : k ≤ 16) (hi : i < 2 ^ k) : plc k (i + 1) ≤ 65536 := by
  unfold plc
  have : (i + 1) * 2 ^ (16 - k) ≤ 2 ^ k * 2 ^ (16 - k) := Nat.mul_le_mul_right _ hi
  rw [← Nat.pow_add, show k + (16 - k) = 16 by omega] at this
  exact this
theorem plc_ord {k i l j : Nat} (hk : k ≤ 16) (hl : l ≤ 16) : (i + 1) * 2 ^ l ≤ j * 2 ^ k ↔ plc k (i + 1) ≤ plc l j := by
  unfold plc
  have p := Nat.two_pow_pos (16 - k)
  have q := Nat.two_pow_pos (16 - l)
  have e1 : (i + 1) * 2 ^ l * (2 ^ (16 - k) * 2 ^ (16 - l)) = (i + 1) * 2 ^ (16 - k) * 2 ^ 16 := by
    have : (2 : Nat) ^ l * 2 ^ (16 - l) = 2 ^ 16 := by rw [← Nat.pow_add]; congr 1; omega
    rw [← this]
    generalize (2 : Nat) ^ l = a
    generalize (2 : Nat) ^ (16 - l) = b
    generalize (2 : Nat) ^ (16 - k) = c
    grind
  have e2 : j * 2 ^ k * (2 ^ (16 - k) * 2 ^ (16 - l)) = j * 2 ^ (16 - l) * 2 ^ 16 := by
    have : (2 : Nat) ^ k * 2 ^ (16 - k) = 2 ^ 16 := by rw [← Nat.pow_add]; congr 1; omega
    rw [← this]
    generalize (2 : Nat) ^ k = a
    generalize (2 : Nat) ^ (16 - l) = b
    generalize (2 : Nat) ^ (16 - k) = c
    grind
  have pq : 0 < 2 ^ (16 - k) * 2 ^ (16 - l) := Nat.mul_pos p q
  constructor
  · intro h
    have := Nat.mul_le_mul_right (2 ^ (16 - k) * 2 ^ (16 - l)) h
    rw [e1, e2] at this
    exact Nat.le_of_mul_le_mul_right this (by decide)
  · intro h
    have := Nat.mul_le_mul_right (2 ^ 16) h
    rw [← e1, ← e2] at this
    exact Nat.le_of_mul_le_mul_right this pq
/-- WEAK DUALITY: no parts and no signs together -/
theorem parts_signs {ch : List (List Int × Nat)} (ok : okC ch) {b : Nat} {xs ys : List Int32} (h1 : partsOK ch b xs) (h2 : signsOK ch b ys) : False := by
  obtain ⟨ev, hv, ho, hb, hr⟩ := h1
  obtain ⟨_, _, hlt⟩ := h2
  have step : ∀ j, 2 * j < xs.length → j + 1 + VG ch 16 (plc (kX xs j) (iX xs j + 1)) ≤ VG ch 16 0 := by
    intro j
    induction j with
    | zero =>
      intro h
      obtain ⟨_, a2, _, a4⟩ := hv 0 h
      have r := hr 0 h
      unfold rtN at r
      rw [VG_16 ok a2, VG_16 ok a2] at r
      have := VG_mono ok (k := 16) (Nat.zero_le (plc (kX xs 0) (iX xs 0)))
      omega
    | succ j ih =>
      intro h
      have ih := ih (by omega)
      obtain ⟨_, a2, _, a4⟩ := hv j (by omega)
      obtain ⟨_, b2, _, b4⟩ := hv (j + 1) h
      have o := (plc_ord a2 b2).mp (ho j (by omega))
      have r := hr (j + 1) h
      unfold rtN at r
      rw [VG_16 ok b2, VG_16 ok b2] at r
      have := VG_mono ok (k := 16) o
      omega
  have tot : rtN ch 0 0 = VG ch 16 0 - VG ch 16 65536 := by
    unfold rtN
    rw [VG_16 ok (k := 0) (by omega) 0, VG_16 ok (k := 0) (by omega) (0 + 1), show plc 0 0 = 0 from rfl, show plc 0 (0 + 1) = 65536 from rfl]
  by_cases z : xs.length = 0
  · omega
  · obtain ⟨j, hj⟩ : ∃ j, xs.length = 2 * j + 2 := ⟨xs.length / 2 - 1, by omega⟩
    have s := step j (by omega)
    obtain ⟨_, a2, _, a4⟩ := hv j (by omega)
    have := VG_mono ok (k := 16) (plc_le a2 a4)
    omega
end
