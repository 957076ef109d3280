/-! THE PURE PART, equations: an item is fulfilled; an unknown is made small. -/
section
theorem dlin_dsz {c z : Nat → Int} {s : Nat} (hs : s ≤ 4) (hc : ∀ k, s ≤ k → c k = 0) : dsz s (fun k => c k * z k) = dlin c z := by
  have q : ∀ k, s ≤ k → c k * z k = 0 := fun k hk => by rw [hc k hk, Int.zero_mul]
  unfold dlin
  rcases (by omega : s = 0 ∨ s = 1 ∨ s = 2 ∨ s = 3 ∨ s = 4) with rfl | rfl | rfl | rfl | rfl
  · rw [q 0 (by omega), q 1 (by omega), q 2 (by omega), q 3 (by omega)]; rfl
  · rw [q 1 (by omega), q 2 (by omega), q 3 (by omega)]; simp only [dsz]; omega
  · rw [q 2 (by omega), q 3 (by omega)]; simp only [dsz]; omega
  · rw [q 3 (by omega)]; simp only [dsz]; omega
  · simp only [dsz]; omega
/-- the numbers of an item, of the unknowns that there are -/
def aD (d : Nat → Int32) (s m i k : Nat) : Int := if k < s then (aV d m i k).toInt else 0
def fA (a : Nat → Int) (n : Nat) (B : Nat → Nat → Int) (j : Nat) : Int := if j < n then dlin a (B j) else 0
/-- what comes of it: n, the amounts, the rows and the point ahead of it; mis what is missing -/
def flR (n : Nat) (α0 : Nat → Int) (B : Nat → Nat → Int) (P : Nat → Int) (mis : Int) (v : Int32) (V : mV) : Prop := ∃ α B', gtS n α0 B α B' ∧ (((∀ i, i < n → α i = 0) ∧ ((v = 1 ∧ mis = 0 ∧ stD V n α B' P) ∨ (v = 0 ∧ mis ≠ 0))) ∨ ∃ o, o < n ∧ α o ≠ 0 ∧ (∀ i, i < n → i ≠ o → α i = 0) ∧ ((v = 0 ∧ ¬ α o ∣ mis) ∨ ∃ t, v = 1 ∧ t * α o = mis ∧ stD V (n - 1) α (rmB n o B') (fun k => P k + t * B' o k)))
theorem T_fulfil {F e s m i n : Nat} {b ix : Int32} {d : Nat → Int32} {α : Nat → Int} {B : Nat → Nat → Int} {P : Nat → Int} {V : mV} (hF : 2 ^ 21 ≤ F) (hs : s ≤ 4) (hm : m ≤ 16) (hm1 : 1 ≤ m) (hi : i < 2 ^ 20) (ei : ix = nI i) (hn : n ≤ 4) (hq : enQ V e s m b d) (hS : stD V n α B P) (h1 : ((rS d m b i).toInt - dlin (aD d s m i) P).natAbs < 2 ^ 62) (h2 : ∀ j, j < n → (dlin (aD d s m i) (B j)).natAbs < 2 ^ 62) : mTo (mX8_fulfilItem F e ix V) (fun p => flR n (fA (aD d s m i) n B) B P ((rS d m b i).toInt - dlin (aD d s m i) P) p.1 p.2) := by
  subst ei
  have a0 : ∀ k, s ≤ k → aD d s m i k = 0 := fun k hk => if_neg (by omega)
  have a1 : ∀ k, k < s → aD d s m i k = (aV d m i k).toInt := fun k hk => if_pos hk
  have go : ∀ k', (∀ u α (V : mV) (S : Int64), (s - u) + n * 10 + 10 ≤ k' → u ≤ s → enQ V e s m b d → stD V n α B P → S = jO ((rS d m b i).toInt - dsz u (fun k => aD d s m i k * P k)) → mTo (mX8_fulfilItem_go F k' 0 e (nI i) S (nI u) 0 V) (fun p => flR n (fA (aD d s m i) n B) B P ((rS d m b i).toInt - dlin (aD d s m i) P) p.1 p.2)) ∧ (∀ j α (V : mV), (n - j) * 10 + 2 ≤ k' → j ≤ n → enQ V e s m b d → stD V n α B P → (∀ l, l < j → α l = dlin (aD d s m i) (B l)) → mTo (mX8_fulfilItem_go F k' 1 e (nI i) (jO ((rS d m b i).toInt - dlin (aD d s m i) P)) (nI j) 0 V) (fun p => flR n (fA (aD d s m i) n B) B P ((rS d m b i).toInt - dlin (aD d s m i) P) p.1 p.2)) ∧ (∀ j u α (V : mV), (n - j - 1) * 10 + (s - u) + 4 ≤ k' → j < n → u ≤ s → enQ V e s m b d → stD V n α B P → (∀ l, l < j → α l = dlin (aD d s m i) (B l)) → α j = dsz u (fun k => aD d s m i k * B j k) → mTo (mX8_fulfilItem_go F k' 2 e (nI i) (jO ((rS d m b i).toInt - dlin (aD d s m i) P)) (nI j) (nI u) V) (fun p => flR n (fA (aD d s m i) n B) B P ((rS d m b i).toInt - dlin (aD d s m i) P) p.1 p.2)) := by
    intro k'
    induction k' with
    | zero => exact ⟨fun u α V S h => by omega, fun j α V h => by omega, fun j u α V h => by omega⟩
    | succ x ih =>
      obtain ⟨ih0, ih1, ih2⟩ := ih
      refine ⟨fun u α V S c1 c2 hq hS eS => ?_, fun j α V c1 c2 hq hS ha => ?_, fun j u α V c1 c2 c3 hq hS ha hj => ?_⟩
      · rw [mX8_fulfilItem_go, if_pos (c := 0 = 0) rfl]
        unfold mX8_fulfilItem_b0
        refine mTo.le hq.1 rfl (by omega) (by omega) (fun z => ?_) (fun z => mTo.so (T_aV hm (by omega) (by omega) rfl rfl hq) (mTo.ix rfl (by omega) (by omega) (mTo.lt (mTo.lt ?_))))
        · have : u = s := by omega
          subst this
          rw [dlin_dsz hs a0] at eS
          rw [eS]
          exact ih1 0 α V (by omega) (Nat.zero_le _) hq hS (fun l hl => absurd hl (Nat.not_lt_zero _))
        · rw [nI_1]
          refine ih0 (u + 1) α V _ (by omega) (by omega) hq hS ?_
          rw [eS, nI_clamp (by omega), hS.2.2.2 u (by omega), jO_32, jO_mul, jO_sub, ← a1 u z]
          congr 1
          rw [dsz]
          omega
      · rw [mX8_fulfilItem_go, if_neg (c := 1 = 0) (by decide), if_pos (c := 1 = 1) rfl]
        unfold mX8_fulfilItem_b1
        refine mTo.le hS.1 rfl (by omega) (by omega) (fun z => ?_) (fun z => mTo.ix rfl (by omega) (by omega) (mTo.lt ?_))
        · have : j = n := by omega
          subst this
          have eA : ∀ l, l < j → α l = fA (aD d s m i) j B l := fun l hl => by
            rw [ha l hl]
            exact (if_pos hl).symm
          refine mTo.W (Q := fun p => ∃ α B', gtS j (fA (aD d s m i) j B) B α B' ∧ stD p.2 j α B' P ∧ gthR j α p.1) (T_gather (by omega) hn (fun l hl => by rw [← eA l hl, ha l hl]; exact h2 l hl) (stD_c hS eA (fun _ _ _ _ => rfl) (fun _ _ => rfl))) (fun v V1 _ q => ?_)
          obtain ⟨α', B', g1, g2, g3⟩ := q
          have cm := cmpZ (x := (rS d m b i).toInt - dlin (aD d s m i) P) h1
          rcases g3 with ⟨e1, e2⟩ | ⟨o, o1, o2, o3, o4⟩
          · have e1 : v = -1 := e1
            subst e1
            rw [if_pos lt_m1]
            refine mTo.ite (fun y => mTo.ret ⟨α', B', g1, Or.inl ⟨e2, Or.inl ⟨rfl, cm.mp y, g2⟩⟩⟩) (fun y => mTo.ret ⟨α', B', g1, Or.inl ⟨e2, Or.inr ⟨rfl, fun w => y (cm.mpr w)⟩⟩⟩)
          · have o2 : v = nI o := o2
            subst o2
            have am : ∀ l, l < j → (α' l).natAbs < 2 ^ 62 := fun l hl => Nat.lt_of_le_of_lt (gtS_le g1) (by rw [← eA l hl, ha l hl]; exact h2 l hl)
            rw [if_neg (nI_pos (by omega)), nI_clamp (n := o) (by omega), g2.2.1 o o1, jO_div h1 (am o o1), jO_mul, jO_sub]
            have h0 : ¬ jO (α' o) = 0 := fun y => o3 ((jO_z (am o o1)).mp y)
            have rest : ∀ x : Int, x - x.tdiv (α' o) * α' o = x.tmod (α' o) := fun x => by rw [Int.tmod_def, Int.mul_comm]
            have rl : ∀ x : Int, x.natAbs < 2 ^ 62 → (x - x.tdiv (α' o) * α' o).natAbs < 2 ^ 62 := fun x hx => Nat.lt_of_le_of_lt (tdiv_rest o3).2.2 hx
            refine mTo.ic rfl (by omega) (by omega) (mTo.ite (fun y => absurd ((cmpZ (am o o1)).mp y) o3) (fun _ => mTo.ic rfl (by omega) (by omega) (mTo.gd h0 (mTo.ite (fun y => mTo.ic rfl (by omega) (by omega) (mTo.gd h0 ?_)) (fun y => mTo.ret ⟨α', B', g1, Or.inr ⟨o, o1, o3, o4, Or.inl ⟨rfl, fun w => y ?_⟩⟩⟩)))))
            · have y := (cmpZ (rl _ h1)).mp y
              refine mTo.W (T_movePoint (by omega) hn (by omega) rfl g2) (fun a V2 _ q => mTo.W (T_removeBasis (by omega) hn o1 q) (fun a V3 _ q => mTo.ret ⟨α', B', g1, Or.inr ⟨o, o1, o3, o4, Or.inr ⟨_, rfl, ?_, q⟩⟩⟩))
              omega
            · refine (cmpZ (rl _ h1)).mpr ?_
              rw [rest]
              exact Int.tmod_eq_zero_of_dvd w
        · refine ih2 j 0 (fun l => if l = j then 0 else α l) _ (by omega) z (Nat.zero_le _) hq (stD_a hS rfl (by omega) rfl) (fun l hl => ?_) (if_pos rfl)
          show (if l = j then 0 else α l) = _
          rw [if_neg (by omega)]
          exact ha l hl
      · rw [mX8_fulfilItem_go, if_neg (c := 2 = 0) (by decide), if_neg (c := 2 = 1) (by decide), if_pos (c := 2 = 2) rfl]
        unfold mX8_fulfilItem_b2
        refine mTo.le hq.1 rfl (by omega) (by omega) (fun z => mTo.lt ?_) (fun z => mTo.ix rfl (by omega) (by omega) (mTo.so (T_aV hm (by omega) (by omega) rfl rfl hq) (mTo.ix rfl (by omega) (by omega) (mTo.ix rfl (by omega) (by omega) (mTo.ix rfl (by omega) (by omega) (mTo.lt (mTo.lt ?_)))))))
        · have : u = s := by omega
          subst this
          rw [nI_1]
          refine ih1 (j + 1) α V (by omega) (by omega) hq hS (fun l hl => ?_)
          by_cases w : l = j
          · rw [w, hj, dlin_dsz hs a0]
          · exact ha l (by omega)
        · rw [nI_1, nI_clamp (n := j) (by omega), nI_clamp (n := u) (by omega), hS.2.1 j (by omega), hS.2.2.1 j u (by omega) (by omega), jO_32, jO_mul, jO_add, ← a1 u z]
          refine ih2 j (u + 1) _ _ (by omega) c2 (by omega) hq (stD_a hS rfl (by omega) rfl) (fun l hl => ?_) ?_
          · show (if l = j then _ else α l) = _
            rw [if_neg (by omega)]
            exact ha l hl
          · show (if j = j then _ else α j) = _
            rw [if_pos rfl, hj, dsz]
  unfold mX8_fulfilItem mX8_fulfilItem_s
  refine mTo.so (T_rS hm hm1 hi rfl hq) (mTo.lt ?_)
  exact (go F).1 0 α V _ (by omega) (Nat.zero_le _) hq hS (by rw [jO_32]; congr 1; rw [dsz]; omega)
theorem jO_xor {x y : Int} (hx : x.natAbs < 2 ^ 62) (hy : y.natAbs < 2 ^ 62) (h0 : 0 < y) : 0 ≤ lg_cmp (jO x ^^^ jO y) 0 ↔ 0 ≤ x := by
  have a := lg_cmp_lt (jO x ^^^ jO y) 0
  have m : ((jO x ^^^ jO y).toBitVec).msb = (((jO x).toBitVec).msb ^^ ((jO y).toBitVec).msb) := by
    rw [Int64.toBitVec_xor, BitVec.msb_xor]
  rw [BitVec.msb_eq_toInt, BitVec.msb_eq_toInt, BitVec.msb_eq_toInt] at m
  have e1 : (jO x).toBitVec.toInt = x := jO_in hx
  have e2 : (jO y).toBitVec.toInt = y := jO_in hy
  rw [e1, e2, decide_eq_false (show ¬ y < 0 by omega), Bool.xor_false] at m
  have b : (jO x ^^^ jO y) < 0 ↔ x < 0 := by
    rw [Int64.lt_iff_toInt_lt]
    exact decide_eq_decide.mp m
  constructor
  · intro h
    refine Int.not_lt.mp fun z => ?_
    exact absurd (a.mpr (b.mpr z)) (Int32.not_lt.mpr h)
  · intro h
    refine Int32.not_lt.mp fun z => ?_
    have := b.mp (a.mp z)
    omega
theorem T_floorMod {F : Nat} {x y : Int} (hx : x.natAbs < 2 ^ 62) (hy : y.natAbs < 2 ^ 62) (h0 : 0 < y) : mJ9_floorMod_f86c9 F (jO x) (jO y) = some (jO (x % y)) := by
  unfold mJ9_floorMod_f86c9
  have e : x - x.tdiv y * y = x.tmod y := by rw [Int.tmod_def, Int.mul_comm]
  have rl : (x.tmod y).natAbs < 2 ^ 62 := by
    rw [← e]
    exact Nat.lt_of_le_of_lt (tdiv_rest (by omega)).2.2 hx
  have j0 : ¬ jO y = 0 := fun z => by
    have := (jO_z hy).mp z
    omega
  have X := jO_xor hx hy h0
  rw [if_neg j0]
  unfold mLt
  rw [jO_div hx hy, jO_mul, jO_sub, e]
  show (if 0 ≤ lg_cmp (jO x ^^^ jO y) 0 then some (jO (x.tmod y)) else if lg_cmp (jO (x.tmod y)) 0 = 0 then some (jO (x.tmod y)) else some (jO (x.tmod y) + jO y)) = _
  rcases Int.lt_or_le x 0 with z | z
  · rw [if_neg (fun w => by have := X.mp w; omega)]
    have t : x.tmod y = -((-x) % y) := by
      have := Int.neg_tmod (-x) y
      rw [Int.neg_neg] at this
      rw [this, Int.tmod_eq_emod_of_nonneg (by omega)]
    have em := Int.emod_add_mul_ediv (-x) y
    have m1 := Int.emod_nonneg (-x) (show y ≠ 0 by omega)
    have m2 := Int.emod_lt_of_pos (-x) h0
    by_cases w : (-x) % y = 0
    · rw [if_pos ((cmpZ rl).mpr (by rw [t, w]; rfl)), t, w]
      have : x % y = 0 := by
        have : y ∣ x := by
          have := Int.dvd_of_emod_eq_zero w
          exact (Int.dvd_neg).mp this
        exact Int.emod_eq_zero_of_dvd this
      rw [this]
      rfl
    · rw [if_neg (fun u => w (by have := (cmpZ rl).mp u; omega)), jO_add, t]
      congr 2
      have : x = (y - (-x) % y) + y * (-((-x) / y) - 1) := by grind
      have q : x % y = (y - (-x) % y) % y := by
        have e2 := Int.add_mul_emod_self_left (y - (-x) % y) y (-((-x) / y) - 1)
        rw [← this] at e2
        exact e2
      rw [q, Int.emod_eq_of_lt (a := y - (-x) % y) (b := y) (by omega) (by omega)]
      omega
  · rw [if_pos (X.mpr z), Int.tmod_eq_emod_of_nonneg z]
theorem lg_cmp_le2 {x y : Int} (hx : x.natAbs < 2 ^ 62) (hy : y.natAbs < 2 ^ 62) : lg_cmp (jO x) (jO y) ≤ 0 ↔ x ≤ y := by
  have a := lg_cmp_lt (jO x) (jO y)
  have b : jO x < jO y ↔ x < y := by rw [Int64.lt_iff_toInt_lt, jO_in hx, jO_in hy]
  have c := cmp0 hx hy
  constructor
  · intro h
    by_cases z : lg_cmp (jO x) (jO y) = 0
    · have := c.mp z
      omega
    · have := b.mp (a.mp (Int32.lt_of_le_of_ne h z))
      omega
  · intro h
    by_cases z : x = y
    · rw [c.mpr z]
      exact Int32.le_refl 0
    · exact Int32.le_of_lt (a.mpr (b.mpr (by omega)))
/-- an unknown is made small -/
def tlR (n u : Nat) (B : Nat → Nat → Int) (P : Nat → Int) (V : mV) : Prop := ∃ α B', gtS n (fA (unit u) n B) B α B' ∧ (((∀ i, i < n → α i = 0) ∧ stD V n α B' P) ∨ ∃ o t, o < n ∧ α o ≠ 0 ∧ (∀ i, i < n → i ≠ o → α i = 0) ∧ (-((α o).natAbs : Int) < 2 * (P u + t * α o) ∧ 2 * (P u + t * α o) ≤ ((α o).natAbs : Int)) ∧ t.natAbs ≤ (P u).natAbs + (α o).natAbs ∧ stD V (n - 1) α (rmB n o B') (fun k => P k + t * B' o k))
theorem T_takeLeast {F n u : Nat} {ux : Int32} {α : Nat → Int} {B : Nat → Nat → Int} {P : Nat → Int} {V : mV} (hF : 2 ^ 21 ≤ F) (hn : n ≤ 4) (hu : u < 4) (eu : ux = nI u) (hS : stD V n α B P) (h1 : (P u).natAbs < 2 ^ 60) (h2 : ∀ j, j < n → (B j u).natAbs < 2 ^ 60) : mTo (mX8_takeLeastAmount F ux V) (fun p => tlR n u B P p.2) := by
  subst eu
  have go : ∀ k' j α (V : mV), n < j + k' → j ≤ n → stD V n α B P → (∀ l, l < j → α l = B l u) → mTo (mX8_takeLeastAmount_go F k' 0 (nI u) (nI j) V) (fun p => tlR n u B P p.2) := by
    intro k'
    induction k' with
    | zero => intro j α V h; omega
    | succ x ih =>
      intro j α V c1 c2 hS ha
      rw [mX8_takeLeastAmount_go, if_pos rfl]
      unfold mX8_takeLeastAmount_b0
      refine mTo.le hS.1 rfl (by omega) (by omega) (fun z => ?_) (fun z => mTo.ix rfl (by omega) (by omega) (mTo.ix rfl (by omega) (by omega) (mTo.ix rfl (by omega) (by omega) (mTo.lt (mTo.lt ?_)))))
      · have : j = n := by omega
        subst this
        have eA : ∀ l, l < j → α l = fA (unit u) j B l := fun l hl => by
          rw [ha l hl]
          unfold fA
          rw [if_pos hl]
          have : dlin (unit u) (B l) = B l u := by
            rcases (by omega : u = 0 ∨ u = 1 ∨ u = 2 ∨ u = 3) with rfl | rfl | rfl | rfl <;> simp [dlin, unit]
          exact this.symm
        have bl : ∀ l, l < j → (fA (unit u) j B l).natAbs < 2 ^ 60 := fun l hl => by rw [← eA l hl, ha l hl]; exact h2 l hl
        refine mTo.W (Q := fun p => ∃ α B', gtS j (fA (unit u) j B) B α B' ∧ stD p.2 j α B' P ∧ gthR j α p.1) (T_gather (by omega) hn (fun l hl => by have := bl l hl; omega) (stD_c hS eA (fun _ _ _ _ => rfl) (fun _ _ => rfl))) (fun v V1 _ q => ?_)
        obtain ⟨α', B', g1, g2, g3⟩ := q
        rcases g3 with ⟨e1, e2⟩ | ⟨o, o1, o2, o3, o4⟩
        · have e1 : v = -1 := e1
          subst e1
          rw [if_pos lt_m1]
          exact mTo.ret ⟨α', B', g1, Or.inl ⟨e2, g2⟩⟩
        · have o2 : v = nI o := o2
          subst o2
          have am : (α' o).natAbs < 2 ^ 60 := Nat.lt_of_le_of_lt (gtS_le g1) (bl o o1)
          rw [if_neg (nI_pos (by omega)), nI_clamp (n := o) (by omega), g2.2.1 o o1, nI_clamp (n := u) (by omega), g2.2.2.2 u hu, jO_abs (by omega)]
          have h0 : ¬ jO (α' o) = 0 := fun y => o3 ((jO_z (by omega)).mp y)
          obtain ⟨st, hst⟩ : ∃ st : Int, st = ((α' o).natAbs : Int) := ⟨_, rfl⟩
          rw [← hst]
          have m1 := Int.emod_nonneg (P u) (show st ≠ 0 by omega)
          have m2 := Int.emod_lt_of_pos (P u) (show 0 < st by omega)
          have md : st ∣ P u % st - P u := by
            have := Int.emod_add_mul_ediv (P u) st
            exact ⟨-(P u / st), by rw [Int.mul_neg]; omega⟩
          have md' : ∀ y : Int, st ∣ y → (y.tdiv (α' o)) * α' o = y ∧ (y.tdiv (α' o)).natAbs ≤ y.natAbs := fun y hy => by
            have : α' o ∣ y := Int.natAbs_dvd.mp (by rw [← hst]; exact hy)
            refine ⟨Int.tdiv_mul_cancel this, ?_⟩
            rw [Int.natAbs_tdiv]
            exact Nat.div_le_self _ _
          have lc := lg_cmp_le2 (x := P u % st) (y := st - P u % st) (by omega) (by omega)
          refine mTo.ic rfl (by omega) (by omega) (mTo.ite (fun y => absurd ((cmpZ (by omega)).mp y) o3) (fun _ => mTo.ic rfl (by omega) (by omega) (mTo.lt (mTo.ic rfl (by omega) (by omega) (mTo.so (T_floorMod (by omega) (by omega) (by omega)) (mTo.ite (fun y => mTo.ic rfl (by omega) (by omega) (mTo.ic rfl (by omega) (by omega) (mTo.gd h0 ?_))) (fun y => mTo.lt (mTo.ic rfl (by omega) (by omega) (mTo.ic rfl (by omega) (by omega) (mTo.gd h0 ?_))))))))))
          · rw [jO_sub] at y
            have y := lc.mp y
            rw [jO_sub, jO_div (by omega) (by omega)]
            obtain ⟨t1, t2⟩ := md' _ md
            refine mTo.W (T_movePoint (by omega) hn (by omega) rfl g2) (fun a V2 _ q => mTo.W (T_removeBasis (by omega) hn o1 q) (fun a V3 _ q => mTo.ret ⟨α', B', g1, Or.inr ⟨o, _, o1, o3, o4, ?_, ?_, q⟩⟩))
            · rw [t1]
              omega
            · omega
          · rw [jO_sub] at y
            have y : ¬ P u % st ≤ st - P u % st := fun w => y (lc.mpr w)
            rw [jO_sub, jO_sub, jO_div (by omega) (by omega)]
            have md2 : st ∣ P u % st - st - P u := by
              obtain ⟨c, hc⟩ := md
              exact ⟨c - 1, by rw [Int.mul_sub, ← hc]; omega⟩
            obtain ⟨t1, t2⟩ := md' _ md2
            refine mTo.W (T_movePoint (by omega) hn (by omega) rfl g2) (fun a V2 _ q => mTo.W (T_removeBasis (by omega) hn o1 q) (fun a V3 _ q => mTo.ret ⟨α', B', g1, Or.inr ⟨o, _, o1, o3, o4, ?_, ?_, q⟩⟩))
            · rw [t1]
              omega
            · omega
      · rw [nI_1, nI_clamp (n := j) (by omega), nI_clamp (n := u) (by omega), hS.2.2.1 j u (by omega) hu]
        refine ih (j + 1) _ _ (by omega) (by omega) (stD_a hS rfl (by omega) rfl) (fun l hl => ?_)
        show (if l = j then B j u else α l) = _
        by_cases w : l = j
        · rw [if_pos w, w]
        · rw [if_neg w]
          exact ha l (by omega)
  unfold mX8_takeLeastAmount mX8_takeLeastAmount_s
  exact go F 0 α V (by omega) (Nat.zero_le _) hS (fun l hl => absurd hl (Nat.not_lt_zero _))
end
