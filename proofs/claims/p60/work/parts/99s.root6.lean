/-! THE PURE PART, roots: the machine's divisors, degrees, divisions. -/
section
theorem T_gcd {F : Nat} {a b : Int} (hF : 1000 ≤ F) (ha : a.natAbs < 2 ^ 62) (hb : b.natAbs < 2 ^ 62) : mX11_divisorInCommon F (jO a) (jO b) = some (jO (Nat.gcd a.natAbs b.natAbs : Nat)) := by
  have go : ∀ m k' t (x y : Nat), y < 2 ^ m → x < 2 ^ 62 → y < 2 ^ 62 → t + 2 * m ≤ 198 → 2 * m + 3 ≤ k' → mX11_divisorInCommon_go F k' 0 (jO x) (jO y) (nI t) = some (jO (Nat.gcd x y : Nat)) := by
    intro m
    induction m with
    | zero =>
      intro k' t x y h1 h2 h3 h4 h5
      obtain ⟨k, rfl⟩ : ∃ k, k' = k + 1 := ⟨k' - 1, by omega⟩
      have y0 : y = 0 := by
        have : y < 1 := h1
        omega
      subst y0
      rw [mX11_divisorInCommon_go, if_pos rfl]
      unfold mX11_divisorInCommon_b0
      rw [if_neg (fun z => by have := (nI_leI (a := 200) (b := t) (by omega) (by omega)).mp z; omega), if_pos ((cmpZ (x := ((0 : Nat) : Int)) (by decide)).mpr rfl), Nat.gcd_zero_right]
    | succ m ih =>
      intro k' t x y h1 h2 h3 h4 h5
      obtain ⟨k, rfl⟩ : ∃ k, k' = k + 2 := ⟨k' - 2, by omega⟩
      have ab : ∀ n : Nat, n < 2 ^ 62 → (n : Int).natAbs < 2 ^ 62 := fun n hn => by rw [Int.natAbs_natCast]; exact hn
      have rest : ∀ (u w : Nat), u < 2 ^ 62 → w < 2 ^ 62 → jO u - jO u / jO w * jO w = jO ((u % w : Nat) : Int) := fun u w hu hw => by
        rw [jO_div (ab u hu) (ab w hw), jO_mul, jO_sub]
        congr 1
        rw [Int.tdiv_eq_ediv_of_nonneg (by omega), Int.natCast_emod]
        have := Int.emod_add_mul_ediv (u : Int) w
        rw [Int.mul_comm] at this
        omega
      rw [show k + 2 = (k + 1) + 1 from rfl, mX11_divisorInCommon_go, if_pos rfl]
      unfold mX11_divisorInCommon_b0
      rw [if_neg (fun z => by have := (nI_leI (a := 200) (b := t) (by omega) (by omega)).mp z; omega)]
      by_cases y0 : y = 0
      · rw [if_pos ((cmpZ (ab y h3)).mpr (by omega)), y0, Nat.gcd_zero_right]
      · rw [if_neg (fun z => y0 (by have := (cmpZ (ab y h3)).mp z; omega)), if_neg (fun z => y0 (by have := (jO_z (ab y h3)).mp z; omega)), rest x y h2 h3]
        show mX11_divisorInCommon_go F (k + 1) 0 (jO y) (jO ((x % y : Nat) : Int)) (nI t + 1) = _
        have r1 := Nat.mod_lt x (show 0 < y by omega)
        rw [nI_1, mX11_divisorInCommon_go, if_pos rfl]
        unfold mX11_divisorInCommon_b0
        rw [if_neg (fun z => by have := (nI_leI (a := 200) (b := t + 1) (by omega) (by omega)).mp z; omega)]
        by_cases r0 : x % y = 0
        · rw [if_pos ((cmpZ (ab _ (by omega))).mpr (by omega)), Nat.gcd_comm, Nat.gcd_rec, r0, Nat.gcd_zero_left]
        · rw [if_neg (fun z => r0 (by have := (cmpZ (ab _ (show x % y < 2 ^ 62 by omega))).mp z; omega)), if_neg (fun z => r0 (by have := (jO_z (ab _ (show x % y < 2 ^ 62 by omega))).mp z; omega)), rest y (x % y) h3 (by omega)]
          show mX11_divisorInCommon_go F k 0 (jO ((x % y : Nat) : Int)) (jO ((y % (x % y) : Nat) : Int)) (nI (t + 1) + 1) = _
          have r2 := Nat.mod_lt y (show 0 < x % y by omega)
          have r3 := Nat.div_add_mod y (x % y)
          have r4 : 1 ≤ y / (x % y) := (Nat.one_le_div_iff (by omega)).mpr (by omega)
          have r5 : (x % y) * 1 ≤ (x % y) * (y / (x % y)) := Nat.mul_le_mul_left _ r4
          have h1' : y < 2 * 2 ^ m := by
            rw [Nat.pow_succ] at h1
            omega
          rw [nI_1, ih k (t + 1 + 1) (x % y) (y % (x % y)) (by omega) (by omega) (by omega) (by omega) (by omega)]
          congr 3
          have g1 : Nat.gcd x y = Nat.gcd (x % y) y := by
            rw [Nat.gcd_comm, Nat.gcd_rec]
          rw [g1, Nat.gcd_rec (x % y) y, Nat.gcd_comm]
  unfold mX11_divisorInCommon mX11_divisorInCommon_s
  rw [jO_abs ha, jO_abs hb]
  exact go 62 F 0 a.natAbs b.natAbs hb ha hb (by omega) (by omega)
def len4 (L : List Int) : Prop := L.length = 4
/-- a polynomial lies in a row of the machine -/
def plI (V : mV) (a : Nat) (L : List Int) : Prop := ∀ k, k < 4 → V.rJ a k = jO (gZ L k)
theorem gZ_big {L : List Int} {k : Nat} (h : len4 L) (hk : 4 ≤ k) : gZ L k = 0 := by
  unfold gZ
  rw [List.getD_eq_getElem?_getD, List.getElem?_eq_none (by rw [h]; exact hk)]
  rfl
theorem gZ_set {L : List Int} {i k : Nat} {v : Int} (h : len4 L) (hi : i < 4) : gZ (L.set i v) k = if k = i then v else gZ L k := by
  unfold gZ
  rw [List.getD_eq_getElem?_getD, List.getD_eq_getElem?_getD]
  by_cases e : k = i
  · subst e
    rw [List.getElem?_set_self (by rw [h]; exact hi), if_pos rfl]
    rfl
  · rw [List.getElem?_set_ne (fun z => e z.symm), if_neg e]
theorem gZ_mul {L : List Int} {h : Int} {k : Nat} (hk : k < 4) : gZ (mulZ h L) k = gZ L k * h := by
  rcases (by omega : k = 0 ∨ k = 1 ∨ k = 2 ∨ k = 3) with rfl | rfl | rfl | rfl <;> rfl
theorem len_set {L : List Int} {i : Nat} {v : Int} (h : len4 L) : len4 (L.set i v) := by
  unfold len4
  rw [List.length_set]
  exact h
theorem len_dvI {t : Int} {b : List Int} {s : Nat} : ∀ j {L : List Int}, len4 L → len4 (dvI t b s j L)
  | 0, _, h => h
  | j + 1, L, h => len_set (len_dvI j h)
theorem gZ_dvI {t : Int} {b : List Int} {s : Nat} : ∀ j {L : List Int}, len4 L → s + j ≤ 4 → ∀ k, k < 4 → gZ (dvI t b s j L) k = if s ≤ k ∧ k < s + j then gZ L k - t * gZ b (k - s) else gZ L k
  | 0, L, _, _, k, _ => (if_neg (by omega)).symm
  | j + 1, L, h, hs, k, hk => by
    rw [dvI, gZ_set (len_dvI j h) (by omega)]
    by_cases e : k = s + j
    · rw [if_pos e, if_pos (by omega), e, show s + j - s = j by omega]
    · rw [if_neg e, gZ_dvI j h (by omega) k hk]
      by_cases f : s ≤ k ∧ k < s + j
      · rw [if_pos f, if_pos (by omega)]
      · rw [if_neg f, if_neg (by omega)]
theorem T_degreeOf {F a : Nat} {V : mV} {L : List Int} (hF : 64 ≤ F) (ha : mLen a = 4) (hp : plI V a L) (hs : ∀ k, k < 4 → (gZ L k).natAbs < 2 ^ 62) : mX8_degreeOf F a V = some (if dgZ L = 0 then -1 else nI (dgZ L - 1)) := by
  have st : ∀ k' i (x : Int32), i < 4 → mX8_degreeOf_go F (k' + 1) 0 a x (nI i) V = mX8_degreeOf_go F k' 0 a (if gZ L i = 0 then x else nI i) (nI (i + 1)) V := fun k' i x hi => by
    rw [mX8_degreeOf_go, if_pos rfl]
    unfold mX8_degreeOf_b0
    rw [ha, if_neg (fun z => by have := (nI_leI (a := 4) (b := i) (by omega) (by omega)).mp z; omega), if_neg (nI_in hi (by omega)), nI_clamp (by omega), hp i hi]
    by_cases e : gZ L i = 0
    · rw [if_pos ((cmpZ (hs i hi)).mpr e), if_pos e]
      show mX8_degreeOf_go F k' 0 a x (nI i + 1) V = _
      rw [nI_1]
    · rw [if_neg (fun z => e ((cmpZ (hs i hi)).mp z)), if_neg e]
      show mX8_degreeOf_go F k' 0 a (nI i) (nI i + 1) V = _
      rw [nI_1]
  unfold mX8_degreeOf mX8_degreeOf_s
  obtain ⟨k, rfl⟩ : ∃ k, F = k + 5 := ⟨F - 5, by omega⟩
  show mX8_degreeOf_go (k + 5) (k + 4 + 1) 0 a (-1) (nI 0) V = _
  rw [st (k + 4) 0 (-1) (by omega), show k + 4 = k + 3 + 1 from rfl, st (k + 3) 1 _ (by omega), show k + 3 = k + 2 + 1 from rfl, st (k + 2) 2 _ (by omega), show k + 2 = k + 1 + 1 from rfl, st (k + 1) 3 _ (by omega), mX8_degreeOf_go, if_pos rfl]
  unfold mX8_degreeOf_b0
  rw [ha, if_pos (show Int32.ofNat 4 ≤ nI (3 + 1) from (nI_leI (a := 4) (b := 4) (by omega) (by omega)).mpr (by omega))]
  unfold dgZ
  by_cases e3 : gZ L 3 = 0
  · by_cases e2 : gZ L 2 = 0
    · by_cases e1 : gZ L 1 = 0
      · by_cases e0 : gZ L 0 = 0
        · simp [e0, e1, e2, e3]
        · simp [e0, e1, e2, e3]
      · simp [e1, e2, e3]
    · simp [e2, e3]
  · simp [e3]
theorem T_makeFree {F a : Nat} {V : mV} {L : List Int} (hF : 1000 ≤ F) (ha : mLen a = 4) (hl : len4 L) (hp : plI V a L) (hs : ∀ k, k < 4 → (gZ L k).natAbs < 2 ^ 62) : mTo (mX8_makeFree F a V) (fun p => plI p.2 a (frZ L)) := by
  have gb : ∀ x y : Nat, x < 2 ^ 62 → y < 2 ^ 62 → Nat.gcd x y < 2 ^ 62 := fun x y hx hy => by
    by_cases e : x = 0
    · rw [e, Nat.gcd_zero_left]
      exact hy
    · have := Nat.gcd_le_left y (show 0 < x by omega)
      omega
  have s1 : ∀ k' i (g : Nat), i < 4 → g < 2 ^ 62 → mX8_makeFree_go F (k' + 1) 0 a (jO g) (nI i) V = mX8_makeFree_go F k' 0 a (jO ((Nat.gcd g (gZ L i).natAbs : Nat) : Int)) (nI (i + 1)) V := fun k' i g hi hg => by
    rw [mX8_makeFree_go, if_pos rfl]
    unfold mX8_makeFree_b0
    rw [ha, if_neg (fun z => by have := (nI_leI (a := 4) (b := i) (by omega) (by omega)).mp z; omega), if_neg (nI_in hi (by omega)), nI_clamp (by omega), hp i hi, T_gcd hF (by rw [Int.natAbs_natCast]; exact hg) (hs i hi), Int.natAbs_natCast]
    show mX8_makeFree_go F k' 0 a _ (nI i + 1) V = _
    rw [nI_1]
  obtain ⟨G, hG⟩ : ∃ G, G = gcZ L := ⟨_, rfl⟩
  have G62 : G < 2 ^ 62 := by
    rw [hG]
    exact gb _ _ (gb _ _ (gb _ _ (hs 0 (by omega)) (hs 1 (by omega))) (hs 2 (by omega))) (hs 3 (by omega))
  have fin : mTo (mX8_makeFree_go F (F - 5) 1 a (jO G) (nI 0) V) (fun p => plI p.2 a (frZ L)) := by
    have f62 : ((G : Nat) : Int).natAbs < 2 ^ 62 := by rw [Int.natAbs_natCast]; exact G62
    have one : (1 : Int64) = jO 1 := rfl
    by_cases g1 : G ≤ 1
    · obtain ⟨k, hk⟩ : ∃ k, F - 5 = k + 1 := ⟨F - 6, by omega⟩
      rw [hk, mX8_makeFree_go, if_neg (by decide), if_pos rfl]
      unfold mX8_makeFree_b1
      rw [ha, if_neg (fun z => by have := (nI_leI (a := 4) (b := 0) (by omega) (by omega)).mp z; omega), one, if_pos ((lg_cmp_le2 f62 (by decide)).mpr (by omega))]
      refine mTo.ret ?_
      unfold frZ
      rw [← hG, if_pos g1]
      exact hp
    · have st : ∀ k' j (V1 : mV), 4 < j + k' → j ≤ 4 → (∀ k, k < 4 → V1.rJ a k = jO (if k < j then (gZ L k).tdiv G else gZ L k)) → mTo (mX8_makeFree_go F k' 1 a (jO G) (nI j) V1) (fun p => plI p.2 a (frZ L)) := by
        intro k'
        induction k' with
        | zero => intro j V1 h; omega
        | succ k ih =>
          intro j V1 h1 h2 h3
          rw [mX8_makeFree_go, if_neg (by decide), if_pos rfl]
          unfold mX8_makeFree_b1
          rw [ha]
          refine mTo.le (a := 4) rfl rfl (by omega) (by omega) (fun z => mTo.ret ?_) (fun z => ?_)
          · intro k hk
            show V1.rJ a k = _
            rw [h3 k hk, if_pos (by omega)]
            unfold frZ
            rw [← hG, if_neg g1]
            rcases (by omega : k = 0 ∨ k = 1 ∨ k = 2 ∨ k = 3) with rfl | rfl | rfl | rfl <;> rfl
          · rw [one]
            refine mTo.ite (fun y => absurd ((lg_cmp_le2 f62 (by decide)).mp y) (by omega)) (fun _ => mTo.ix rfl z (by omega) (mTo.gd (fun y => by have := (jO_z f62).mp y; omega) (mTo.ix rfl z (by omega) (mTo.lt (mTo.lt ?_)))))
            rw [nI_1, nI_clamp (by omega), h3 j z, if_neg (by omega), jO_div (hs j z) f62]
            refine ih (j + 1) _ (by omega) (by omega) (fun k hk => ?_)
            rw [mJ_at (nI_clamp (by omega)), h3 k hk]
            by_cases e : k = j
            · rw [if_pos e, if_pos (by omega), e]
            · rw [if_neg e]
              by_cases f : k < j
              · rw [if_pos f, if_pos (by omega)]
              · rw [if_neg f, if_neg (by omega)]
      exact st (F - 5) 0 V (by omega) (by omega) (fun k hk => by rw [if_neg (by omega)]; exact hp k hk)
  unfold mX8_makeFree mX8_makeFree_s
  obtain ⟨k, hk⟩ : ∃ k, F = k + 5 := ⟨F - 5, by omega⟩
  have e5 : F - 5 = k := by omega
  have gl := gb
  have x0 : Nat.gcd 0 (gZ L 0).natAbs = (gZ L 0).natAbs := Nat.gcd_zero_left _
  have main : mX8_makeFree_go F F 0 a (0 : Int64) (0 : Int32) V = mX8_makeFree_go F (F - 5) 1 a (jO G) (nI 0) V := by
    show mX8_makeFree_go F F 0 a (jO ((0 : Nat) : Int)) (nI 0) V = _
    have q : ∀ n, n = k + 5 → mX8_makeFree_go F n 0 a (jO ((0 : Nat) : Int)) (nI 0) V = mX8_makeFree_go F k 1 a (jO G) (nI 0) V := fun n hn => by
      subst hn
      rw [show k + 5 = k + 4 + 1 from rfl, s1 (k + 4) 0 0 (by omega) (by decide), x0, show k + 4 = k + 3 + 1 from rfl, s1 (k + 3) 1 _ (by omega) (hs 0 (by omega)), show k + 3 = k + 2 + 1 from rfl, s1 (k + 2) 2 _ (by omega) (gb _ _ (hs 0 (by omega)) (hs 1 (by omega))), show k + 2 = k + 1 + 1 from rfl, s1 (k + 1) 3 _ (by omega) (gb _ _ (gb _ _ (hs 0 (by omega)) (hs 1 (by omega))) (hs 2 (by omega))), mX8_makeFree_go, if_pos rfl]
      unfold mX8_makeFree_b0
      rw [ha, if_pos (show Int32.ofNat 4 ≤ nI (3 + 1) from (nI_leI (a := 4) (b := 4) (by omega) (by omega)).mpr (by omega)), hG]
      rfl
    rw [e5]
    exact q F hk
  show mTo (mX8_makeFree_go F F 0 a (0 : Int64) (0 : Int32) V) _
  rw [main]
  exact fin
theorem nI_m1 {s : Nat} : nI (s + 1) + (-1 : Int32) = nI s := by
  have := nI_pred s
  rw [Int32.sub_eq_add_neg] at this
  exact this
theorem T_divide {F ca cb ad bd : Nat} {V : mV} {A B L O : List Int} (hF : 1000 ≤ F) (hF2 : 2 ^ 21 ≤ F) (hca : mLen ca = 4) (hcb : mLen cb = 4) (nb : cb ≠ 68 ∧ cb ≠ 69) (hlA : len4 A) (hpA : plI V ca A) (hpB : plI V cb B) (h0 : gZ B bd ≠ 0) (hh : (gZ B bd).natAbs < 2 ^ 62) (hd : bd ≤ ad) (had : ad ≤ 3) (hm : dvZ A B ad bd = some (L, O)) : mTo (mX8_divide F ca cb (nI ad) (nI bd) V) (fun p => plI p.2 68 L ∧ plI p.2 69 O) := by
  have l68 : mLen 68 = 4 := by decide
  have l69 : mLen 69 = 4 := by decide
  obtain ⟨H, hH⟩ : ∃ H : Int, H = ((gZ B bd).natAbs : Int) := ⟨_, rfl⟩
  have hHabs : (if 0 < jO (gZ B bd) then jO (gZ B bd) else -jO (gZ B bd)) = jO H := by rw [hH]; exact jO_abs hh
  have e0 : ¬ lg_cmp (jO (gZ B bd)) 0 = 0 := fun z => h0 ((cmpZ hh).mp z)
  have e1 : ¬ jO (gZ B bd) = 0 := fun z => h0 ((jO_z hh).mp z)
  have go : ∀ k', (∀ s (x : Int32) (V1 : mV) (L1 O1 : List Int), s * 20 + 1 ≤ k' → s + bd ≤ 4 → (s = 0 → x = -1) → (∀ t, s = t + 1 → x = nI t) → plI V1 cb B → len4 L1 → len4 O1 → plI V1 68 L1 → plI V1 69 O1 → dwS (gZ B bd) B bd s L1 O1 = some (L, O) → mTo (mX8_divide_go F k' 0 0 cb (nI bd) (jO (gZ B bd)) x 0 0 V1) (fun p => plI p.2 68 L ∧ plI p.2 69 O)) ∧ (∀ s j (V1 : mV) (L1 O1 : List Int), s * 20 + (4 - j) + 10 ≤ k' → s + 1 + bd ≤ 4 → j ≤ 4 → plI V1 cb B → len4 L1 → len4 O1 → (∀ k, k < 4 → V1.rJ 68 k = jO (if k < j then gZ L1 k * H else gZ L1 k)) → (∀ k, k < 4 → V1.rJ 69 k = jO (if k < j then gZ O1 k * H else gZ O1 k)) → dwS (gZ B bd) B bd (s + 1) L1 O1 = some (L, O) → mTo (mX8_divide_go F k' 1 0 cb (nI bd) (jO (gZ B bd)) (nI s) (nI j) 0 V1) (fun p => plI p.2 68 L ∧ plI p.2 69 O)) ∧ (∀ s j (t : Int) (V1 : mV) (L1 O1 : List Int), s * 20 + (bd + 1 - j) + 2 ≤ k' → s + 1 + bd ≤ 4 → j ≤ bd + 1 → plI V1 cb B → len4 L1 → len4 O1 → (∀ k, k < 4 → V1.rJ 68 k = jO (if s ≤ k ∧ k < s + j then gZ L1 k - t * gZ B (k - s) else gZ L1 k)) → plI V1 69 O1 → dwS (gZ B bd) B bd s (dvI t B s (bd + 1) L1) O1 = some (L, O) → mTo (mX8_divide_go F k' 2 (nI j) cb (nI bd) (jO (gZ B bd)) (nI s) 0 (jO t) V1) (fun p => plI p.2 68 L ∧ plI p.2 69 O)) := by
    intro k'
    induction k' with
    | zero => exact ⟨fun s x V1 L1 O1 h => by omega, fun s j V1 L1 O1 h => by omega, fun s j t V1 L1 O1 h => by omega⟩
    | succ k ih =>
      obtain ⟨ih0, ih1, ih2⟩ := ih
      refine ⟨fun s x V1 L1 O1 c1 c2 c3 c4 hB hl hlo hL hO hm => ?_, fun s j V1 L1 O1 c1 c2 c3 hB hl hlo hL hO hm => ?_, fun s j t V1 L1 O1 c1 c2 c3 hB hl hlo hL hO hm => ?_⟩
      · rw [mX8_divide_go, if_pos (c := 0 = 0) rfl]
        unfold mX8_divide_b0
        cases s with
        | zero =>
          rw [c3 rfl, if_pos lt_m1]
          rw [dwS] at hm
          cases hm
          exact mTo.ret ⟨hL, hO⟩
        | succ s =>
          rw [c4 s rfl, if_neg (nI_pos (by omega)), if_neg e0]
          exact ih1 s 0 V1 L1 O1 (by omega) c2 (by omega) hB hl hlo (fun k hk => by rw [if_neg (by omega)]; exact hL k hk) (fun k hk => by rw [if_neg (by omega)]; exact hO k hk) hm
      · rw [mX8_divide_go, if_neg (c := 1 = 0) (by decide), if_pos (c := 1 = 1) rfl]
        unfold mX8_divide_b1
        refine mTo.le (a := 4) rfl rfl (by omega) (by omega) (fun z => ?_) (fun z => mTo.ix rfl z (by omega) (mTo.ix rfl z (by omega) (mTo.lt (mTo.ix rfl z (by omega) (mTo.ix rfl z (by omega) (mTo.lt (mTo.lt ?_)))))))
        · have j4 : j = 4 := by omega
          subst j4
          rw [nI_add]
          rw [dwS] at hm
          by_cases sm : sm62 (gZ L1 (s + bd) * (gZ B bd).natAbs) = true
          · rw [if_pos sm, td_sg h0] at hm
            have s62 := sm62_of sm
            refine mTo.ix rfl (show s + bd < 4 by omega) (by omega) (mTo.gd e1 (mTo.lt (mTo.ix rfl (show s < 4 by omega) (by omega) (mTo.lt ?_))))
            rw [nI_clamp (n := s + bd) (by omega), hL (s + bd) (by omega), if_pos (by omega), hH, jO_div s62 hh, td_sg h0]
            rw [← hH] at hm
            refine ih2 s 0 _ _ (mulZ H L1) ((mulZ H O1).set s (gZ L1 (s + bd) * sgZ (gZ B bd))) (by omega) c2 (by omega) (fun k hk => by rw [mJ_no nb.2]; exact hB k hk) rfl (len_set rfl) (fun k hk => ?_) (fun k hk => ?_) hm
            · rw [mJ_no (by decide), hL k hk, if_pos (by omega), if_neg (by omega), gZ_mul hk]
            · rw [mJ_at (nI_clamp (by omega)), gZ_set (show len4 (mulZ H O1) from rfl) (by omega)]
              by_cases e : k = s
              · rw [if_pos e, if_pos e]
              · rw [if_neg e, if_neg e, hO k hk, if_pos (by omega), gZ_mul hk]
          · rw [if_neg sm] at hm
            cases hm
        · rw [nI_1, nI_clamp (n := j) (by omega), hHabs, hL j z, if_neg (by omega), jO_mul]
          refine ih1 s (j + 1) _ L1 O1 (by omega) c2 (by omega) (fun k hk => by rw [mJ_no nb.2, mJ_no nb.1]; exact hB k hk) hl hlo (fun k hk => ?_) (fun k hk => ?_) hm
          · rw [mJ_no (by decide), mJ_at (nI_clamp (by omega))]
            by_cases e : k = j
            · rw [if_pos e, if_pos (by omega), e]
            · rw [if_neg e, hL k hk]
              by_cases f : k < j
              · rw [if_pos f, if_pos (by omega)]
              · rw [if_neg f, if_neg (by omega)]
          · rw [mJ_at (nI_clamp (by omega)), mJ_no (by decide), hO j z, if_neg (show ¬ j < j by omega), jO_mul]
            by_cases e : k = j
            · rw [if_pos e, if_pos (by omega), e]
            · rw [if_neg e, hO k hk]
              by_cases f : k < j
              · rw [if_pos f, if_pos (by omega)]
              · rw [if_neg f, if_neg (by omega)]
      · rw [mX8_divide_go, if_neg (c := 2 = 0) (by decide), if_neg (c := 2 = 1) (by decide), if_pos (c := 2 = 2) rfl]
        unfold mX8_divide_b2
        rw [nI_add, hcb]
        refine mTo.ltI rfl rfl (by omega) (by omega) (fun z => mTo.lt ?_) (fun z => mTo.ix rfl (show s + j < 4 by omega) (by omega) (mTo.ix rfl (show j < 4 by omega) (by omega) (mTo.ix rfl (show s + j < 4 by omega) (by omega) (mTo.lt (mTo.lt ?_)))))
        · have jb : j = bd + 1 := by omega
          subst jb
          refine ih0 s _ V1 _ O1 (by omega) (by omega) (fun w => by rw [w]; rfl) (fun t w => by rw [w]; exact nI_m1) hB (len_dvI _ hl) hlo (fun k hk => ?_) hO hm
          rw [hL k hk, gZ_dvI (bd + 1) hl (by omega) k hk]
        · rw [nI_1, nI_clamp (n := s + j) (by omega), nI_clamp (n := j) (by omega), hL (s + j) (by omega), if_neg (by omega), hB j (by omega), jO_mul, jO_sub]
          refine ih2 s (j + 1) t _ L1 O1 (by omega) c2 (by omega) (fun k hk => by rw [mJ_no nb.1]; exact hB k hk) hl hlo (fun k hk => ?_) (fun k hk => by rw [mJ_no (by decide)]; exact hO k hk) hm
          rw [mJ_at (nI_clamp (by omega))]
          by_cases e : k = s + j
          · rw [if_pos e, if_pos (by omega), e, show s + j - s = j by omega]
          · rw [if_neg e, hL k hk]
            by_cases f : s ≤ k ∧ k < s + j
            · rw [if_pos f, if_pos (by omega)]
            · rw [if_neg f, if_neg (by omega)]
  unfold mX8_divide mX8_divide_s
  rw [if_neg (by decide), if_neg (by decide), if_neg (by decide), if_neg (fun z => z (by rw [hca]; decide)), if_neg (fun z => z (by decide))]
  refine mTo.lt ?_
  obtain ⟨p, p1, q⟩ := T_fillJ (F := F) (a := 69) (N := 4) (x := 0) (V := mRJ V 68 (va_cpy (V.rJ ca) (V.rJ 68) 0 0 4)) (by omega) l69 (by omega)
  have fr := NJ7_fill_d0a16 (v := p.1) (V1 := p.2) p1
  refine mTo.W (Q := fun r => r = p) ⟨p, p1, rfl⟩ (fun v V1 _ r => ?_)
  have eV : V1 = p.2 := congrArg Prod.snd r
  rw [eV, hcb]
  have nw : ∀ x, x ≠ 69 → ¬ wJ7_fill_d0a16 69 x := fun x hx y => hx y
  have hB2 : plI p.2 cb B := fun k hk => by
    rw [(fr.1 cb (nw _ nb.2)).2.2.2]
    show va_up V.rJ 68 _ cb k = _
    rw [mUp_ne _ _ nb.1]
    exact hpB k hk
  have hL2 : plI p.2 68 A := fun k hk => by
    rw [(fr.1 68 (nw _ (by decide))).2.2.2]
    show va_up V.rJ 68 (va_cpy (V.rJ ca) (V.rJ 68) 0 0 4) 68 k = _
    rw [mUp_eq, cpy_at hk]
    exact hpA k hk
  have hO2 : plI p.2 69 [0, 0, 0, 0] := fun k hk => by
    rw [q k, if_pos hk]
    rcases (by omega : k = 0 ∨ k = 1 ∨ k = 2 ∨ k = 3) with rfl | rfl | rfl | rfl <;> rfl
  refine mTo.ix rfl (show bd < 4 by omega) (by omega) (mTo.lt (mTo.lt ?_))
  rw [nI_clamp (by omega), hB2 bd (by omega)]
  have sub : nI ad - nI bd = nI (ad - bd) := by
    have := nI_add (ad - bd) bd
    rw [show ad - bd + bd = ad by omega] at this
    rw [← this]
    exact Int32.add_sub_cancel _ _
  rw [sub]
  exact (go F).1 (ad - bd + 1) _ p.2 A [0, 0, 0, 0] (by omega) (by omega) (fun w => by omega) (fun t w => by rw [show ad - bd = t by omega]) hB2 hlA rfl hL2 hO2 hm
end
