/-! A NEW BOOK: what each constructor makes. -/
section
theorem pR.to {D D' C C' : Nat → Prop} {α : Nat → Nat} {S0 S : wPS} (P : pR D C α S0 S) (hd : ∀ x, D x ↔ D' x) (hc : ∀ x, C' x → C x) : pR D' C' α S0 S := ⟨P.1, fun i hi => P.2.1 i ((hd i).mpr hi), fun i j hi hj => P.2.2.1 i j ((hd i).mpr hi) ((hd j).mpr hj), fun a ha => by
  rcases P.2.2.2.1 a ha with h | ⟨i, hi, e⟩
  · exact Or.inl h
  · exact Or.inr ⟨i, (hd i).mp hi, e⟩, fun i hi => by
  obtain ⟨a, b, c, d⟩ := P.2.2.2.2 i (hc i hi)
  exact ⟨(hd i).mp a, b, fun j t ht => (hd t).mp (c j t ht), fun k t ht => (hd t).mp (d k t ht)⟩⟩
theorem cF_no {i : Nat} (h : mK i ≠ 3) : (fun _ => (0 : Int32)) = cF i := by
  funext j
  unfold cF
  rw [if_neg (fun z => h z.1), if_neg (fun z => h z.1)]
theorem mR_big {i j : Nat} (h : 20 ≤ j) : mR i j = none := by
  unfold mR
  by_cases c : i < 9
  · have : ∀ i, i < 9 → (mRs.getD i []).length ≤ 20 := by decide
    have l := this i c
    have e : (mRs.getD i []).getD j 0 = 0 := by
      rw [List.getD_eq_getElem?_getD, List.getElem?_eq_none (by omega)]
      rfl
    rw [if_pos c, if_pos e]
  · rw [if_neg c]
    repeat' split
    all_goals first | rfl | omega
theorem cRef_big {i j : Nat} (h : 20 ≤ j) : cRef i j = none := by
  unfold cRef
  by_cases c : mK i = 9
  · rw [if_pos c, if_neg (by omega)]
  · rw [if_neg c, if_neg (by omega)]
    exact mR_big h
theorem cSt {i : Nat} {r : Nat → Option Nat} (h : ∀ j, j < 20 → cRef i j = r j) (j t : Nat) (ht : cRef i j = some t) : r j = some t := by
  by_cases c : j < 20
  · rw [← h j c]
    exact ht
  · rw [cRef_big (by omega)] at ht
    cases ht
theorem c_none (t j : Nat) (h : ∀ j, j < 20 → cRef t j = none) : cRef t j = none := by
  by_cases c : j < 20
  · exact h j c
  · exact cRef_big (by omega)
theorem pS.rawP {D D' C' X : Nat → Prop} {α α' : Nat → Nat} {S0 S S' : wPS} {i : Nat} {f : Nat → Int32} {r : Nat → Option Nat} (h : pS D X α S α' S') (_P : pR D' C' α' S0 S') (W : pRaw D α S i f r) (hi : D i) (hx : ¬ X i) (hd : ∀ x, D x → D' x) : pRaw D' α' S' i f r := h.raw W hi hx hd
theorem pS.rowP {D D' C' X : Nat → Prop} {α α' : Nat → Nat} {S0 S S' : wPS} {i n : Nat} {r : Nat → Option Nat} (h : pS D X α S α' S') (_P : pR D' C' α' S0 S') (W : pRow D α S i n r) (hi : D i) (hx : ¬ X i) (hd : ∀ x, D x → D' x) : pRow D' α' S' i n r := h.row W hi hx hd
/-- rows, entries, claims -/
theorem mK_row1 {r : Nat} (h : mK r = 9) : mK (r + 1) = 99 := (mK9 h).2
theorem cK_row {r : Nat} (h : mK r = 9) : cK (r + 1) = 13 := by
  unfold cK
  rw [if_pos (mK_row1 h)]
theorem cLen_row {r : Nat} (h : mK r = 9) : cLen (r + 1) = 16 := by
  unfold cLen
  rw [if_pos (mK_row1 h), if_neg]
  intro z
  have : r = 8 := by omega
  subst this
  cases h
theorem cm_row {r : Nat} (h : mK r = 9) : ¬ mK (r + 1) < 12 := by
  rw [mK_row1 h]
  decide
theorem cr_row {r : Nat} (h : mK r = 9) (j : Nat) : cRef (r + 1) j = none := by
  have h1 := mK_row1 h
  have h9 : ¬ r + 1 < 9 := fun z => by
    have : ∀ i, i < 9 → mK i ≠ 99 := by decide
    exact this _ z h1
  unfold cRef mR
  rw [if_neg (by omega), if_neg (by omega), if_neg h9, if_neg (by omega), if_neg (by omega)]
theorem mRA_99 {x k : Nat} (h : mK x = 99 ∨ mK x < 15) : mRA x k = none := by
  unfold mRA
  repeat' split
  all_goals first | rfl | (exfalso; subst_vars; revert h; decide)
theorem cRA_99 {x k : Nat} (h : mK x = 99 ∨ mK x < 15) : cRA x k = none := by
  unfold cRA
  rw [if_neg (fun z => by subst z; revert h; decide)]
  exact mRA_99 h
theorem ca_row {r : Nat} (h : mK r = 9) (k : Nat) : cRA (r + 1) k = none := cRA_99 (Or.inl (mK_row1 h))
theorem cRow {r : Nat} (h : mK r = 9) (j t : Nat) (ht : cRef r j = some t) : va_up (fun _ => (none : Option Nat)) 0 (some (r + 1)) j = some t := by
  unfold cRef at ht
  rw [if_pos h] at ht
  by_cases c : j = 0
  · rw [if_pos c] at ht
    subst c
    rw [mUp_eq]
    exact ht
  · rw [if_neg c] at ht
    cases ht
theorem cn_row {r : Nat} (h : mK r = 9) (k : Nat) : cRA r k = none := cRA_99 (Or.inr (by omega))
theorem cK_en {e : Nat} (h : mK e = 3) : cK (e + 1) = 13 := by
  unfold cK
  rw [mKe1 h, if_neg (by decide)]
theorem cLen_en {e : Nat} (h : mK e = 3) : cLen (e + 1) = 80 := by
  unfold cLen
  rw [mKe1 h, if_neg (by decide), mLe1 h]
theorem cm_en {e : Nat} (h : mK e = 3) : ¬ mK (e + 1) < 12 := by
  rw [mKe1 h]
  decide
theorem cr_en {e : Nat} (h : mK e = 3) (j : Nat) : cRef (e + 1) j = none := by
  have := mK3 h
  have h1 := mKe1 h
  unfold cRef mR
  rw [if_neg (by omega), if_neg (by omega), if_neg (by omega), if_neg (by omega), if_neg (by omega)]
theorem ca_en {e : Nat} (h : mK e = 3) (k : Nat) : cRA (e + 1) k = none := cRA_99 (Or.inr (by rw [mKe1 h]; decide))
theorem cK_r2 {e : Nat} (h : mK e = 3) : cK (e + 2) = 9 := by
  unfold cK
  rw [mKe2 h, if_neg (by decide)]
theorem cK_r4 {e : Nat} (h : mK e = 3) : cK (e + 4) = 9 := by
  unfold cK
  rw [mKe4 h, if_neg (by decide)]
theorem cK_c1 {c : Nat} (h : mK c = 0) : cK (c + 1) = 9 := by
  unfold cK
  rw [mKc1 h, if_neg (by decide)]
theorem cF_en {e : Nat} (h : mK e = 3) : va_up (va_up (va_up (va_up (fun _ => (0 : Int32)) 3 (-1 : Int32)) 5 (-1 : Int32)) 11 (110 : Int32)) 15 (110 : Int32) = cF e := by
  funext j
  unfold cF va_up
  simp only [h, true_and]
  repeat' split
  all_goals first | rfl | omega
theorem cEnt {e : Nat} (h : mK e = 3) (j t : Nat) (ht : cRef e j = some t) : va_up (va_up (va_up (fun _ => (none : Option Nat)) 7 (some (e + 1))) 13 (some (e + 2))) 16 (some (e + 4)) j = some t := by
  have := mK3 h
  unfold cRef mR at ht
  rw [if_neg (by omega), if_neg (by omega), if_neg (by omega), if_pos h] at ht
  unfold va_up
  repeat' split at ht
  all_goals first | (cases ht; done) | (subst_vars; exact ht)
theorem cn_en {e : Nat} (h : mK e = 3) (k : Nat) : cRA e k = none := cRA_99 (Or.inr (by omega))
theorem cClm {c : Nat} (h : mK c = 0) (j t : Nat) (ht : cRef c j = some t) : va_up (fun _ => (none : Option Nat)) 3 (some (c + 1)) j = some t := by
  have := mK0 h
  unfold cRef mR at ht
  rw [if_neg (by omega), if_neg (by omega), if_neg (by omega), if_neg (by omega), if_pos h] at ht
  unfold va_up
  repeat' split at ht
  all_goals first | (cases ht; done) | (subst_vars; exact ht)
theorem cn_cl {c : Nat} (h : mK c = 0) (k : Nat) : cRA c k = none := cRA_99 (Or.inr (by omega))
theorem c_T35 (y : Nat) (a : 35 < y) (b : y ≤ 35 + 14) : cK y = 14 := by
  have : ∀ k, k < 14 → cK (36 + k) = 14 := by decide
  rw [show y = 36 + (y - 36) by omega]
  exact this _ (by omega)
theorem c_L35 (y : Nat) (a : 35 < y) (b : y ≤ 35 + 14) : cLen y = 18 := by
  have : ∀ k, k < 14 → cLen (36 + k) = 18 := by decide
  rw [show y = 36 + (y - 36) by omega]
  exact this _ (by omega)
theorem c_m35 (y : Nat) (a : 35 ≤ y) (b : y ≤ 35 + 14) : ¬ mK y < 12 := by
  have : ∀ k, k < 15 → ¬ mK (35 + k) < 12 := by decide
  rw [show y = 35 + (y - 35) by omega]
  exact this _ (by omega)
theorem c_r35 (y : Nat) (a : 35 ≤ y) (b : y ≤ 35 + 14) (j : Nat) : cRef y j = none := by
  have : ∀ k, k < 15 → ∀ j, j < 20 → cRef (35 + k) j = none := by decide
  rw [show y = 35 + (y - 35) by omega]
  exact c_none _ _ (this _ (by omega))
theorem c_a35 (y : Nat) (a : 35 < y) (b : y ≤ 35 + 14) (k : Nat) : cRA y k = none := by
  have : ∀ k, k < 14 → mK (36 + k) < 15 := by decide
  refine cRA_99 (Or.inr ?_)
  rw [show y = 36 + (y - 36) by omega]
  exact this _ (by omega)
theorem c_k35 (k u : Nat) (h : cRA 35 k = some u) : k < 14 ∧ u = 35 + 1 + k := by
  have e : cRA 35 k = if k < 14 then some (36 + k) else none := rfl
  rw [e] at h
  by_cases c : k < 14
  · rw [if_pos c] at h
    cases h
    exact ⟨c, by omega⟩
  · rw [if_neg c] at h
    cases h
theorem c_T55 (y : Nat) (a : 55 < y) (b : y ≤ 55 + 4) : cK y = 14 := by
  have : ∀ k, k < 4 → cK (56 + k) = 14 := by decide
  rw [show y = 56 + (y - 56) by omega]
  exact this _ (by omega)
theorem c_L55 (y : Nat) (a : 55 < y) (b : y ≤ 55 + 4) : cLen y = 4 := by
  have : ∀ k, k < 4 → cLen (56 + k) = 4 := by decide
  rw [show y = 56 + (y - 56) by omega]
  exact this _ (by omega)
theorem c_m55 (y : Nat) (a : 55 ≤ y) (b : y ≤ 55 + 4) : ¬ mK y < 12 := by
  have : ∀ k, k < 5 → ¬ mK (55 + k) < 12 := by decide
  rw [show y = 55 + (y - 55) by omega]
  exact this _ (by omega)
theorem c_r55 (y : Nat) (a : 55 ≤ y) (b : y ≤ 55 + 4) (j : Nat) : cRef y j = none := by
  have : ∀ k, k < 5 → ∀ j, j < 20 → cRef (55 + k) j = none := by decide
  rw [show y = 55 + (y - 55) by omega]
  exact c_none _ _ (this _ (by omega))
theorem c_a55 (y : Nat) (a : 55 < y) (b : y ≤ 55 + 4) (k : Nat) : cRA y k = none := by
  have : ∀ k, k < 4 → mK (56 + k) < 15 := by decide
  refine cRA_99 (Or.inr ?_)
  rw [show y = 56 + (y - 56) by omega]
  exact this _ (by omega)
theorem c_k55 (k u : Nat) (h : cRA 55 k = some u) : k < 4 ∧ u = 55 + 1 + k := by
  have e : cRA 55 k = if k < 4 then some (56 + k) else none := rfl
  rw [e] at h
  by_cases c : k < 4
  · rw [if_pos c] at h
    cases h
    exact ⟨c, by omega⟩
  · rw [if_neg c] at h
    cases h
theorem c_T61 (y : Nat) (a : 61 < y) (b : y ≤ 61 + 5) : cK y = 14 := by
  have : ∀ k, k < 5 → cK (62 + k) = 14 := by decide
  rw [show y = 62 + (y - 62) by omega]
  exact this _ (by omega)
theorem c_L61 (y : Nat) (a : 61 < y) (b : y ≤ 61 + 5) : cLen y = 4 := by
  have : ∀ k, k < 5 → cLen (62 + k) = 4 := by decide
  rw [show y = 62 + (y - 62) by omega]
  exact this _ (by omega)
theorem c_m61 (y : Nat) (a : 61 ≤ y) (b : y ≤ 61 + 5) : ¬ mK y < 12 := by
  have : ∀ k, k < 6 → ¬ mK (61 + k) < 12 := by decide
  rw [show y = 61 + (y - 61) by omega]
  exact this _ (by omega)
theorem c_r61 (y : Nat) (a : 61 ≤ y) (b : y ≤ 61 + 5) (j : Nat) : cRef y j = none := by
  have : ∀ k, k < 6 → ∀ j, j < 20 → cRef (61 + k) j = none := by decide
  rw [show y = 61 + (y - 61) by omega]
  exact c_none _ _ (this _ (by omega))
theorem c_a61 (y : Nat) (a : 61 < y) (b : y ≤ 61 + 5) (k : Nat) : cRA y k = none := by
  have : ∀ k, k < 5 → mK (62 + k) < 15 := by decide
  refine cRA_99 (Or.inr ?_)
  rw [show y = 62 + (y - 62) by omega]
  exact this _ (by omega)
theorem c_k61 (k u : Nat) (h : cRA 61 k = some u) : k < 5 ∧ u = 61 + 1 + k := by
  have e : cRA 61 k = if k < 5 then some (62 + k) else none := rfl
  rw [e] at h
  by_cases c : k < 5
  · rw [if_pos c] at h
    cases h
    exact ⟨c, by omega⟩
  · rw [if_neg c] at h
    cases h
theorem c_T70 (y : Nat) (a : 70 < y) (b : y ≤ 70 + 5) : cK y = 13 := by
  have : ∀ k, k < 5 → cK (71 + k) = 13 := by decide
  rw [show y = 71 + (y - 71) by omega]
  exact this _ (by omega)
theorem c_L70 (y : Nat) (a : 70 < y) (b : y ≤ 70 + 5) : cLen y = 6 := by
  have : ∀ k, k < 5 → cLen (71 + k) = 6 := by decide
  rw [show y = 71 + (y - 71) by omega]
  exact this _ (by omega)
theorem c_m70 (y : Nat) (a : 70 ≤ y) (b : y ≤ 70 + 5) : ¬ mK y < 12 := by
  have : ∀ k, k < 6 → ¬ mK (70 + k) < 12 := by decide
  rw [show y = 70 + (y - 70) by omega]
  exact this _ (by omega)
theorem c_r70 (y : Nat) (a : 70 ≤ y) (b : y ≤ 70 + 5) (j : Nat) : cRef y j = none := by
  have : ∀ k, k < 6 → ∀ j, j < 20 → cRef (70 + k) j = none := by decide
  rw [show y = 70 + (y - 70) by omega]
  exact c_none _ _ (this _ (by omega))
theorem c_a70 (y : Nat) (a : 70 < y) (b : y ≤ 70 + 5) (k : Nat) : cRA y k = none := by
  have : ∀ k, k < 5 → mK (71 + k) < 15 := by decide
  refine cRA_99 (Or.inr ?_)
  rw [show y = 71 + (y - 71) by omega]
  exact this _ (by omega)
theorem c_k70 (k u : Nat) (h : cRA 70 k = some u) : k < 5 ∧ u = 70 + 1 + k := by
  have e : cRA 70 k = if k < 5 then some (71 + k) else none := rfl
  rw [e] at h
  by_cases c : k < 5
  · rw [if_pos c] at h
    cases h
    exact ⟨c, by omega⟩
  · rw [if_neg c] at h
    cases h
set_option maxHeartbeats 4000000 in
theorem init_X7 {D C : Nat → Prop} {α : Nat → Nat} {S0 S : wPS} {A F k0 n0 : Nat} {Φ : Unit → wPS → Prop} (P : pR D C α S0 S) (hi : D 2) (hn : ¬ C 2) (eA : α 2 = A) (W : pRaw D α S 2 (fun _ => 0) (fun _ => none)) (hD : ∀ x, 19 ≤ x ∧ x ≤ 26 → ¬ D x) (hk : 8 ≤ k0) (hm : 575 ≤ n0) (k : ∀ α' S', pR (fun x => D x ∨ (19 ≤ x ∧ x ≤ 26)) (fun x => C x ∨ (19 ≤ x ∧ x ≤ 26) ∨ x = 2) α' S0 S' → pS D (fun x => x = 2) α S α' S' → Φ () S') : rX7_init F k0 n0 A S Φ := by
  have G0 : pS D (fun x => x = 2) α S α S := pS.rf
  unfold rX7_init
  simp only [show ((7 : Int32)).toNatClampNeg = 7 from by decide, show ((9 : Int32)).toNatClampNeg = 9 from by decide, show ((10 : Int32)).toNatClampNeg = 10 from by decide, show ((512 : Int32)).toNatClampNeg = 512 from by decide]
  refine ⟨by decide, by omega, by omega, by decide, fun q2 hq2 => ?_⟩
  refine pNI (t := 19) P (hD (19) (by omega)) (by decide) ⟨by decide, by decide⟩ (by decide) (by decide) (fun j => c_none 19 j (by decide)) (fun _ => rfl) hq2 (fun α1 S1 P1 H1 e1 => ?_)
  have V1 := H1.rawP P1 W (hi) (fun z => z) (fun _ => Or.inl)
  have G1 := pS.tr G0 H1 (fun _ z => z) (fun _ z _ => z) (fun _ z _ => z.elim)
  have a1 : α1 2 = A := (H1 _ (hi)).1.trans eA
  refine pSetA (t := 19) P1 ((Or.inl hi)) (pno hn (by omega)) a1 V1 ((Or.inr rfl)) e1 (fun S2 P2 H2 W2 => ?_)
  have G2 := pS.tr G1 H2 (fun _ z => (Or.inl z)) (fun _ z _ => z) (fun _ z _ => z)
  refine ⟨by decide, by omega, by omega, by decide, fun q6 hq6 => ?_⟩
  refine pNI (t := 20) P2 (pno (hD (20) (by omega)) (by omega)) (by decide) ⟨by decide, by decide⟩ (by decide) (by decide) (fun j => c_none 20 j (by decide)) (fun _ => rfl) hq6 (fun α3 S3 P3 H3 e3 => ?_)
  have V3 := H3.rawP P3 W2 ((Or.inl hi)) (fun z => z) (fun _ => Or.inl)
  have G3 := pS.tr G2 H3 (fun _ z => (Or.inl z)) (fun _ z _ => z) (fun _ z _ => z.elim)
  have a3 : α3 2 = A := (H3 _ ((Or.inl hi))).1.trans a1
  refine pSetA (t := 20) P3 ((Or.inl (Or.inl hi))) (pno (pno hn (by omega)) (by omega)) a3 V3 ((Or.inr rfl)) e3 (fun S4 P4 H4 W4 => ?_)
  have G4 := pS.tr G3 H4 (fun _ z => (Or.inl (Or.inl z))) (fun _ z _ => z) (fun _ z _ => z)
  refine ⟨by decide, by omega, by omega, by decide, fun q10 hq10 => ?_⟩
  refine pNI (t := 21) P4 (pno (pno (hD (21) (by omega)) (by omega)) (by omega)) (by decide) ⟨by decide, by decide⟩ (by decide) (by decide) (fun j => c_none 21 j (by decide)) (fun _ => rfl) hq10 (fun α5 S5 P5 H5 e5 => ?_)
  have V5 := H5.rawP P5 W4 ((Or.inl (Or.inl hi))) (fun z => z) (fun _ => Or.inl)
  have G5 := pS.tr G4 H5 (fun _ z => (Or.inl (Or.inl z))) (fun _ z _ => z) (fun _ z _ => z.elim)
  have a5 : α5 2 = A := (H5 _ ((Or.inl (Or.inl hi)))).1.trans a3
  refine pSetA (t := 21) P5 ((Or.inl (Or.inl (Or.inl hi)))) (pno (pno (pno hn (by omega)) (by omega)) (by omega)) a5 V5 ((Or.inr rfl)) e5 (fun S6 P6 H6 W6 => ?_)
  have G6 := pS.tr G5 H6 (fun _ z => (Or.inl (Or.inl (Or.inl z)))) (fun _ z _ => z) (fun _ z _ => z)
  refine ⟨by decide, by omega, by omega, by decide, fun q14 hq14 => ?_⟩
  refine pNI (t := 22) P6 (pno (pno (pno (hD (22) (by omega)) (by omega)) (by omega)) (by omega)) (by decide) ⟨by decide, by decide⟩ (by decide) (by decide) (fun j => c_none 22 j (by decide)) (fun _ => rfl) hq14 (fun α7 S7 P7 H7 e7 => ?_)
  have V7 := H7.rawP P7 W6 ((Or.inl (Or.inl (Or.inl hi)))) (fun z => z) (fun _ => Or.inl)
  have G7 := pS.tr G6 H7 (fun _ z => (Or.inl (Or.inl (Or.inl z)))) (fun _ z _ => z) (fun _ z _ => z.elim)
  have a7 : α7 2 = A := (H7 _ ((Or.inl (Or.inl (Or.inl hi))))).1.trans a5
  refine pSetA (t := 22) P7 ((Or.inl (Or.inl (Or.inl (Or.inl hi))))) (pno (pno (pno (pno hn (by omega)) (by omega)) (by omega)) (by omega)) a7 V7 ((Or.inr rfl)) e7 (fun S8 P8 H8 W8 => ?_)
  have G8 := pS.tr G7 H8 (fun _ z => (Or.inl (Or.inl (Or.inl (Or.inl z))))) (fun _ z _ => z) (fun _ z _ => z)
  refine ⟨by decide, by omega, by omega, by decide, fun q18 hq18 => ?_⟩
  refine pNI (t := 23) P8 (pno (pno (pno (pno (hD (23) (by omega)) (by omega)) (by omega)) (by omega)) (by omega)) (by decide) ⟨by decide, by decide⟩ (by decide) (by decide) (fun j => c_none 23 j (by decide)) (fun _ => rfl) hq18 (fun α9 S9 P9 H9 e9 => ?_)
  have V9 := H9.rawP P9 W8 ((Or.inl (Or.inl (Or.inl (Or.inl hi))))) (fun z => z) (fun _ => Or.inl)
  have G9 := pS.tr G8 H9 (fun _ z => (Or.inl (Or.inl (Or.inl (Or.inl z))))) (fun _ z _ => z) (fun _ z _ => z.elim)
  have a9 : α9 2 = A := (H9 _ ((Or.inl (Or.inl (Or.inl (Or.inl hi)))))).1.trans a7
  refine pSetA (t := 23) P9 ((Or.inl (Or.inl (Or.inl (Or.inl (Or.inl hi)))))) (pno (pno (pno (pno (pno hn (by omega)) (by omega)) (by omega)) (by omega)) (by omega)) a9 V9 ((Or.inr rfl)) e9 (fun S10 P10 H10 W10 => ?_)
  have G10 := pS.tr G9 H10 (fun _ z => (Or.inl (Or.inl (Or.inl (Or.inl (Or.inl z)))))) (fun _ z _ => z) (fun _ z _ => z)
  refine ⟨by decide, by omega, by omega, by decide, fun q22 hq22 => ?_⟩
  refine pNI (t := 24) P10 (pno (pno (pno (pno (pno (hD (24) (by omega)) (by omega)) (by omega)) (by omega)) (by omega)) (by omega)) (by decide) ⟨by decide, by decide⟩ (by decide) (by decide) (fun j => c_none 24 j (by decide)) (fun _ => rfl) hq22 (fun α11 S11 P11 H11 e11 => ?_)
  have V11 := H11.rawP P11 W10 ((Or.inl (Or.inl (Or.inl (Or.inl (Or.inl hi)))))) (fun z => z) (fun _ => Or.inl)
  have G11 := pS.tr G10 H11 (fun _ z => (Or.inl (Or.inl (Or.inl (Or.inl (Or.inl z)))))) (fun _ z _ => z) (fun _ z _ => z.elim)
  have a11 : α11 2 = A := (H11 _ ((Or.inl (Or.inl (Or.inl (Or.inl (Or.inl hi))))))).1.trans a9
  refine pSetA (t := 24) P11 ((Or.inl (Or.inl (Or.inl (Or.inl (Or.inl (Or.inl hi))))))) (pno (pno (pno (pno (pno (pno hn (by omega)) (by omega)) (by omega)) (by omega)) (by omega)) (by omega)) a11 V11 ((Or.inr rfl)) e11 (fun S12 P12 H12 W12 => ?_)
  have G12 := pS.tr G11 H12 (fun _ z => (Or.inl (Or.inl (Or.inl (Or.inl (Or.inl (Or.inl z))))))) (fun _ z _ => z) (fun _ z _ => z)
  refine ⟨by decide, by omega, by omega, by decide, fun q26 hq26 => ?_⟩
  refine pNI (t := 25) P12 (pno (pno (pno (pno (pno (pno (hD (25) (by omega)) (by omega)) (by omega)) (by omega)) (by omega)) (by omega)) (by omega)) (by decide) ⟨by decide, by decide⟩ (by decide) (by decide) (fun j => c_none 25 j (by decide)) (fun _ => rfl) hq26 (fun α13 S13 P13 H13 e13 => ?_)
  have V13 := H13.rawP P13 W12 ((Or.inl (Or.inl (Or.inl (Or.inl (Or.inl (Or.inl hi))))))) (fun z => z) (fun _ => Or.inl)
  have G13 := pS.tr G12 H13 (fun _ z => (Or.inl (Or.inl (Or.inl (Or.inl (Or.inl (Or.inl z))))))) (fun _ z _ => z) (fun _ z _ => z.elim)
  have a13 : α13 2 = A := (H13 _ ((Or.inl (Or.inl (Or.inl (Or.inl (Or.inl (Or.inl hi)))))))).1.trans a11
  refine pSetA (t := 25) P13 ((Or.inl (Or.inl (Or.inl (Or.inl (Or.inl (Or.inl (Or.inl hi)))))))) (pno (pno (pno (pno (pno (pno (pno hn (by omega)) (by omega)) (by omega)) (by omega)) (by omega)) (by omega)) (by omega)) a13 V13 ((Or.inr rfl)) e13 (fun S14 P14 H14 W14 => ?_)
  have G14 := pS.tr G13 H14 (fun _ z => (Or.inl (Or.inl (Or.inl (Or.inl (Or.inl (Or.inl (Or.inl z)))))))) (fun _ z _ => z) (fun _ z _ => z)
  refine ⟨by decide, by omega, by omega, by decide, fun q30 hq30 => ?_⟩
  refine pNI (t := 26) P14 (pno (pno (pno (pno (pno (pno (pno (hD (26) (by omega)) (by omega)) (by omega)) (by omega)) (by omega)) (by omega)) (by omega)) (by omega)) (by decide) ⟨by decide, by decide⟩ (by decide) (by decide) (fun j => c_none 26 j (by decide)) (fun _ => rfl) hq30 (fun α15 S15 P15 H15 e15 => ?_)
  have V15 := H15.rawP P15 W14 ((Or.inl (Or.inl (Or.inl (Or.inl (Or.inl (Or.inl (Or.inl hi)))))))) (fun z => z) (fun _ => Or.inl)
  have G15 := pS.tr G14 H15 (fun _ z => (Or.inl (Or.inl (Or.inl (Or.inl (Or.inl (Or.inl (Or.inl z)))))))) (fun _ z _ => z) (fun _ z _ => z.elim)
  have a15 : α15 2 = A := (H15 _ ((Or.inl (Or.inl (Or.inl (Or.inl (Or.inl (Or.inl (Or.inl hi))))))))).1.trans a13
  refine pSetA (t := 26) P15 ((Or.inl (Or.inl (Or.inl (Or.inl (Or.inl (Or.inl (Or.inl (Or.inl hi))))))))) (pno (pno (pno (pno (pno (pno (pno (pno hn (by omega)) (by omega)) (by omega)) (by omega)) (by omega)) (by omega)) (by omega)) (by omega)) a15 V15 ((Or.inr rfl)) e15 (fun S16 P16 H16 W16 => ?_)
  have G16 := pS.tr G15 H16 (fun _ z => (Or.inl (Or.inl (Or.inl (Or.inl (Or.inl (Or.inl (Or.inl (Or.inl z))))))))) (fun _ z _ => z) (fun _ z _ => z)
  have PF := pFin P16 ((Or.inl (Or.inl (Or.inl (Or.inl (Or.inl (Or.inl (Or.inl (Or.inl hi))))))))) W16 (by decide) (cF_no (by decide)) (cSt (by decide)) (fun k => cRA_99 (Or.inr (by decide)))
  refine k _ _ (PF.to (fun x => ?_) (fun x => ?_)) G16
  · by_cases h : D x <;> simp only [h, true_or, false_or] <;> omega
  · intro h
    by_cases h2 : C x
    · simp only [h2, true_or]
    · simp only [h2, false_or] at h ⊢
      omega
set_option maxHeartbeats 4000000 in
theorem init_X2 {D C : Nat → Prop} {α : Nat → Nat} {S0 S : wPS} {A F k0 n0 : Nat} {Φ : Unit → wPS → Prop} (P : pR D C α S0 S) (hi : D 3) (hn : ¬ C 3) (eA : α 3 = A) (W : pRaw D α S 3 (fun _ => 0) (fun _ => none)) (hD : ∀ x, 27 ≤ x ∧ x ≤ 34 → ¬ D x) (hk : 8 ≤ k0) (hm : 128 ≤ n0) (k : ∀ α' S', pR (fun x => D x ∨ (27 ≤ x ∧ x ≤ 34)) (fun x => C x ∨ (27 ≤ x ∧ x ≤ 34) ∨ x = 3) α' S0 S' → pS D (fun x => x = 3) α S α' S' → Φ () S') : rX2_init F k0 n0 A S Φ := by
  have G0 : pS D (fun x => x = 3) α S α S := pS.rf
  unfold rX2_init
  simp only [show ((7 : Int32)).toNatClampNeg = 7 from by decide, show ((22 : Int32)).toNatClampNeg = 22 from by decide, show ((49 : Int32)).toNatClampNeg = 49 from by decide]
  refine ⟨by decide, by omega, by omega, by decide, fun q2 hq2 => ?_⟩
  refine pNI (t := 27) P (hD (27) (by omega)) (by decide) ⟨by decide, by decide⟩ (by decide) (by decide) (fun j => c_none 27 j (by decide)) (fun _ => rfl) hq2 (fun α1 S1 P1 H1 e1 => ?_)
  have V1 := H1.rawP P1 W (hi) (fun z => z) (fun _ => Or.inl)
  have G1 := pS.tr G0 H1 (fun _ z => z) (fun _ z _ => z) (fun _ z _ => z.elim)
  have a1 : α1 3 = A := (H1 _ (hi)).1.trans eA
  refine pSetA (t := 27) P1 ((Or.inl hi)) (pno hn (by omega)) a1 V1 ((Or.inr rfl)) e1 (fun S2 P2 H2 W2 => ?_)
  have G2 := pS.tr G1 H2 (fun _ z => (Or.inl z)) (fun _ z _ => z) (fun _ z _ => z)
  refine ⟨by decide, by omega, by omega, by decide, fun q6 hq6 => ?_⟩
  refine pNI (t := 28) P2 (pno (hD (28) (by omega)) (by omega)) (by decide) ⟨by decide, by decide⟩ (by decide) (by decide) (fun j => c_none 28 j (by decide)) (fun _ => rfl) hq6 (fun α3 S3 P3 H3 e3 => ?_)
  have V3 := H3.rawP P3 W2 ((Or.inl hi)) (fun z => z) (fun _ => Or.inl)
  have G3 := pS.tr G2 H3 (fun _ z => (Or.inl z)) (fun _ z _ => z) (fun _ z _ => z.elim)
  have a3 : α3 3 = A := (H3 _ ((Or.inl hi))).1.trans a1
  refine pSetA (t := 28) P3 ((Or.inl (Or.inl hi))) (pno (pno hn (by omega)) (by omega)) a3 V3 ((Or.inr rfl)) e3 (fun S4 P4 H4 W4 => ?_)
  have G4 := pS.tr G3 H4 (fun _ z => (Or.inl (Or.inl z))) (fun _ z _ => z) (fun _ z _ => z)
  refine ⟨by decide, by omega, by omega, by decide, fun q10 hq10 => ?_⟩
  refine pNI (t := 29) P4 (pno (pno (hD (29) (by omega)) (by omega)) (by omega)) (by decide) ⟨by decide, by decide⟩ (by decide) (by decide) (fun j => c_none 29 j (by decide)) (fun _ => rfl) hq10 (fun α5 S5 P5 H5 e5 => ?_)
  have V5 := H5.rawP P5 W4 ((Or.inl (Or.inl hi))) (fun z => z) (fun _ => Or.inl)
  have G5 := pS.tr G4 H5 (fun _ z => (Or.inl (Or.inl z))) (fun _ z _ => z) (fun _ z _ => z.elim)
  have a5 : α5 3 = A := (H5 _ ((Or.inl (Or.inl hi)))).1.trans a3
  refine pSetA (t := 29) P5 ((Or.inl (Or.inl (Or.inl hi)))) (pno (pno (pno hn (by omega)) (by omega)) (by omega)) a5 V5 ((Or.inr rfl)) e5 (fun S6 P6 H6 W6 => ?_)
  have G6 := pS.tr G5 H6 (fun _ z => (Or.inl (Or.inl (Or.inl z)))) (fun _ z _ => z) (fun _ z _ => z)
  refine ⟨by decide, by omega, by omega, by decide, fun q14 hq14 => ?_⟩
  refine pNI (t := 30) P6 (pno (pno (pno (hD (30) (by omega)) (by omega)) (by omega)) (by omega)) (by decide) ⟨by decide, by decide⟩ (by decide) (by decide) (fun j => c_none 30 j (by decide)) (fun _ => rfl) hq14 (fun α7 S7 P7 H7 e7 => ?_)
  have V7 := H7.rawP P7 W6 ((Or.inl (Or.inl (Or.inl hi)))) (fun z => z) (fun _ => Or.inl)
  have G7 := pS.tr G6 H7 (fun _ z => (Or.inl (Or.inl (Or.inl z)))) (fun _ z _ => z) (fun _ z _ => z.elim)
  have a7 : α7 3 = A := (H7 _ ((Or.inl (Or.inl (Or.inl hi))))).1.trans a5
  refine pSetA (t := 30) P7 ((Or.inl (Or.inl (Or.inl (Or.inl hi))))) (pno (pno (pno (pno hn (by omega)) (by omega)) (by omega)) (by omega)) a7 V7 ((Or.inr rfl)) e7 (fun S8 P8 H8 W8 => ?_)
  have G8 := pS.tr G7 H8 (fun _ z => (Or.inl (Or.inl (Or.inl (Or.inl z))))) (fun _ z _ => z) (fun _ z _ => z)
  refine ⟨by decide, by omega, by omega, by decide, fun q18 hq18 => ?_⟩
  refine pNI (t := 31) P8 (pno (pno (pno (pno (hD (31) (by omega)) (by omega)) (by omega)) (by omega)) (by omega)) (by decide) ⟨by decide, by decide⟩ (by decide) (by decide) (fun j => c_none 31 j (by decide)) (fun _ => rfl) hq18 (fun α9 S9 P9 H9 e9 => ?_)
  have V9 := H9.rawP P9 W8 ((Or.inl (Or.inl (Or.inl (Or.inl hi))))) (fun z => z) (fun _ => Or.inl)
  have G9 := pS.tr G8 H9 (fun _ z => (Or.inl (Or.inl (Or.inl (Or.inl z))))) (fun _ z _ => z) (fun _ z _ => z.elim)
  have a9 : α9 3 = A := (H9 _ ((Or.inl (Or.inl (Or.inl (Or.inl hi)))))).1.trans a7
  refine pSetA (t := 31) P9 ((Or.inl (Or.inl (Or.inl (Or.inl (Or.inl hi)))))) (pno (pno (pno (pno (pno hn (by omega)) (by omega)) (by omega)) (by omega)) (by omega)) a9 V9 ((Or.inr rfl)) e9 (fun S10 P10 H10 W10 => ?_)
  have G10 := pS.tr G9 H10 (fun _ z => (Or.inl (Or.inl (Or.inl (Or.inl (Or.inl z)))))) (fun _ z _ => z) (fun _ z _ => z)
  refine ⟨by decide, by omega, by omega, by decide, fun q22 hq22 => ?_⟩
  refine pNI (t := 32) P10 (pno (pno (pno (pno (pno (hD (32) (by omega)) (by omega)) (by omega)) (by omega)) (by omega)) (by omega)) (by decide) ⟨by decide, by decide⟩ (by decide) (by decide) (fun j => c_none 32 j (by decide)) (fun _ => rfl) hq22 (fun α11 S11 P11 H11 e11 => ?_)
  have V11 := H11.rawP P11 W10 ((Or.inl (Or.inl (Or.inl (Or.inl (Or.inl hi)))))) (fun z => z) (fun _ => Or.inl)
  have G11 := pS.tr G10 H11 (fun _ z => (Or.inl (Or.inl (Or.inl (Or.inl (Or.inl z)))))) (fun _ z _ => z) (fun _ z _ => z.elim)
  have a11 : α11 3 = A := (H11 _ ((Or.inl (Or.inl (Or.inl (Or.inl (Or.inl hi))))))).1.trans a9
  refine pSetA (t := 32) P11 ((Or.inl (Or.inl (Or.inl (Or.inl (Or.inl (Or.inl hi))))))) (pno (pno (pno (pno (pno (pno hn (by omega)) (by omega)) (by omega)) (by omega)) (by omega)) (by omega)) a11 V11 ((Or.inr rfl)) e11 (fun S12 P12 H12 W12 => ?_)
  have G12 := pS.tr G11 H12 (fun _ z => (Or.inl (Or.inl (Or.inl (Or.inl (Or.inl (Or.inl z))))))) (fun _ z _ => z) (fun _ z _ => z)
  refine ⟨by decide, by omega, by omega, by decide, fun q26 hq26 => ?_⟩
  refine pNI (t := 33) P12 (pno (pno (pno (pno (pno (pno (hD (33) (by omega)) (by omega)) (by omega)) (by omega)) (by omega)) (by omega)) (by omega)) (by decide) ⟨by decide, by decide⟩ (by decide) (by decide) (fun j => c_none 33 j (by decide)) (fun _ => rfl) hq26 (fun α13 S13 P13 H13 e13 => ?_)
  have V13 := H13.rawP P13 W12 ((Or.inl (Or.inl (Or.inl (Or.inl (Or.inl (Or.inl hi))))))) (fun z => z) (fun _ => Or.inl)
  have G13 := pS.tr G12 H13 (fun _ z => (Or.inl (Or.inl (Or.inl (Or.inl (Or.inl (Or.inl z))))))) (fun _ z _ => z) (fun _ z _ => z.elim)
  have a13 : α13 3 = A := (H13 _ ((Or.inl (Or.inl (Or.inl (Or.inl (Or.inl (Or.inl hi)))))))).1.trans a11
  refine pSetA (t := 33) P13 ((Or.inl (Or.inl (Or.inl (Or.inl (Or.inl (Or.inl (Or.inl hi)))))))) (pno (pno (pno (pno (pno (pno (pno hn (by omega)) (by omega)) (by omega)) (by omega)) (by omega)) (by omega)) (by omega)) a13 V13 ((Or.inr rfl)) e13 (fun S14 P14 H14 W14 => ?_)
  have G14 := pS.tr G13 H14 (fun _ z => (Or.inl (Or.inl (Or.inl (Or.inl (Or.inl (Or.inl (Or.inl z)))))))) (fun _ z _ => z) (fun _ z _ => z)
  refine ⟨by decide, by omega, by omega, by decide, fun q30 hq30 => ?_⟩
  refine pNI (t := 34) P14 (pno (pno (pno (pno (pno (pno (pno (hD (34) (by omega)) (by omega)) (by omega)) (by omega)) (by omega)) (by omega)) (by omega)) (by omega)) (by decide) ⟨by decide, by decide⟩ (by decide) (by decide) (fun j => c_none 34 j (by decide)) (fun _ => rfl) hq30 (fun α15 S15 P15 H15 e15 => ?_)
  have V15 := H15.rawP P15 W14 ((Or.inl (Or.inl (Or.inl (Or.inl (Or.inl (Or.inl (Or.inl hi)))))))) (fun z => z) (fun _ => Or.inl)
  have G15 := pS.tr G14 H15 (fun _ z => (Or.inl (Or.inl (Or.inl (Or.inl (Or.inl (Or.inl (Or.inl z)))))))) (fun _ z _ => z) (fun _ z _ => z.elim)
  have a15 : α15 3 = A := (H15 _ ((Or.inl (Or.inl (Or.inl (Or.inl (Or.inl (Or.inl (Or.inl hi))))))))).1.trans a13
  refine pSetA (t := 34) P15 ((Or.inl (Or.inl (Or.inl (Or.inl (Or.inl (Or.inl (Or.inl (Or.inl hi))))))))) (pno (pno (pno (pno (pno (pno (pno (pno hn (by omega)) (by omega)) (by omega)) (by omega)) (by omega)) (by omega)) (by omega)) (by omega)) a15 V15 ((Or.inr rfl)) e15 (fun S16 P16 H16 W16 => ?_)
  have G16 := pS.tr G15 H16 (fun _ z => (Or.inl (Or.inl (Or.inl (Or.inl (Or.inl (Or.inl (Or.inl (Or.inl z))))))))) (fun _ z _ => z) (fun _ z _ => z)
  have PF := pFin P16 ((Or.inl (Or.inl (Or.inl (Or.inl (Or.inl (Or.inl (Or.inl (Or.inl hi))))))))) W16 (by decide) (cF_no (by decide)) (cSt (by decide)) (fun k => cRA_99 (Or.inr (by decide)))
  refine k _ _ (PF.to (fun x => ?_) (fun x => ?_)) G16
  · by_cases h : D x <;> simp only [h, true_or, false_or] <;> omega
  · intro h
    by_cases h2 : C x
    · simp only [h2, true_or]
    · simp only [h2, false_or] at h ⊢
      omega
set_option maxHeartbeats 4000000 in
theorem init_X5 {D C : Nat → Prop} {α : Nat → Nat} {S0 S : wPS} {A F k0 n0 : Nat} {Φ : Unit → wPS → Prop} (P : pR D C α S0 S) (hi : D 4) (hn : ¬ C 4) (eA : α 4 = A) (W : pRaw D α S 4 (fun _ => 0) (fun _ => none)) (hD : ∀ x, 35 ≤ x ∧ x ≤ 51 → ¬ D x) (hk : 17 ≤ k0) (hm : 298 ≤ n0) (k : ∀ α' S', pR (fun x => D x ∨ (35 ≤ x ∧ x ≤ 51)) (fun x => C x ∨ (35 ≤ x ∧ x ≤ 51) ∨ x = 4) α' S0 S' → pS D (fun x => x = 4) α S α' S' → Φ () S') : rX5_init F k0 n0 A S Φ := by
  have G0 : pS D (fun x => x = 4) α S α S := pS.rf
  unfold rX5_init
  simp only [show ((14 : Int32)).toNatClampNeg = 14 from by decide, show ((18 : Int32)).toNatClampNeg = 18 from by decide]
  refine ⟨by decide, by decide, by decide, by decide, by omega, by omega, fun q2 r3 h1q2 h2q2 h3q2 => ?_⟩
  refine pNT (t := 35) P (fun y a b => (hD y (by omega))) (by decide) (fun y a b => c_T35 y a b) (by decide) (by decide) (by decide) (fun y a b => c_L35 y a b) (fun y a b => c_m35 y a b) (fun y a b => c_r35 y a b) (fun y a b => c_a35 y a b) (fun k u h => c_k35 k u h) h1q2 h2q2 h3q2 (fun α1 S1 P1 H1 e1 => ?_)
  have V1 := H1.rawP P1 W (hi) (fun z => z) (fun _ => Or.inl)
  have G1 := pS.tr G0 H1 (fun _ z => z) (fun _ z _ => z) (fun _ z _ => z.elim)
  have a1 : α1 4 = A := (H1 _ (hi)).1.trans eA
  refine pSetA (t := 35) P1 ((Or.inl hi)) (pno hn (by omega)) a1 V1 ((Or.inr (by omega))) e1 (fun S2 P2 H2 W2 => ?_)
  have G2 := pS.tr G1 H2 (fun _ z => (Or.inl z)) (fun _ z _ => z) (fun _ z _ => z)
  refine ⟨by decide, by omega, by omega, by decide, fun q9 hq9 => ?_⟩
  refine pNI (t := 50) P2 (pno (hD (50) (by omega)) (by omega)) (by decide) ⟨by decide, by decide⟩ (by decide) (by decide) (fun j => c_none 50 j (by decide)) (fun _ => rfl) hq9 (fun α3 S3 P3 H3 e3 => ?_)
  have V3 := H3.rawP P3 W2 ((Or.inl hi)) (fun z => z) (fun _ => Or.inl)
  have G3 := pS.tr G2 H3 (fun _ z => (Or.inl z)) (fun _ z _ => z) (fun _ z _ => z.elim)
  have a3 : α3 4 = A := (H3 _ ((Or.inl hi))).1.trans a1
  refine pSetA (t := 50) P3 ((Or.inl (Or.inl hi))) (pno (pno hn (by omega)) (by omega)) a3 V3 ((Or.inr rfl)) e3 (fun S4 P4 H4 W4 => ?_)
  have G4 := pS.tr G3 H4 (fun _ z => (Or.inl (Or.inl z))) (fun _ z _ => z) (fun _ z _ => z)
  refine ⟨by decide, by omega, by omega, by decide, fun q13 hq13 => ?_⟩
  refine pNI (t := 51) P4 (pno (pno (hD (51) (by omega)) (by omega)) (by omega)) (by decide) ⟨by decide, by decide⟩ (by decide) (by decide) (fun j => c_none 51 j (by decide)) (fun _ => rfl) hq13 (fun α5 S5 P5 H5 e5 => ?_)
  have V5 := H5.rawP P5 W4 ((Or.inl (Or.inl hi))) (fun z => z) (fun _ => Or.inl)
  have G5 := pS.tr G4 H5 (fun _ z => (Or.inl (Or.inl z))) (fun _ z _ => z) (fun _ z _ => z.elim)
  have a5 : α5 4 = A := (H5 _ ((Or.inl (Or.inl hi)))).1.trans a3
  refine pSetA (t := 51) P5 ((Or.inl (Or.inl (Or.inl hi)))) (pno (pno (pno hn (by omega)) (by omega)) (by omega)) a5 V5 ((Or.inr rfl)) e5 (fun S6 P6 H6 W6 => ?_)
  have G6 := pS.tr G5 H6 (fun _ z => (Or.inl (Or.inl (Or.inl z)))) (fun _ z _ => z) (fun _ z _ => z)
  have PF := pFin P6 ((Or.inl (Or.inl (Or.inl hi)))) W6 (by decide) (cF_no (by decide)) (cSt (by decide)) (fun k => cRA_99 (Or.inr (by decide)))
  refine k _ _ (PF.to (fun x => ?_) (fun x => ?_)) G6
  · by_cases h : D x <;> simp only [h, true_or, false_or] <;> omega
  · intro h
    by_cases h2 : C x
    · simp only [h2, true_or]
    · simp only [h2, false_or] at h ⊢
      omega
set_option maxHeartbeats 4000000 in
theorem init_X1 {D C : Nat → Prop} {α : Nat → Nat} {S0 S : wPS} {A F k0 n0 : Nat} {Φ : Unit → wPS → Prop} (P : pR D C α S0 S) (hi : D 5) (hn : ¬ C 5) (eA : α 5 = A) (W : pRaw D α S 5 (fun _ => 0) (fun _ => none)) (hD : ∀ x, 52 ≤ x ∧ x ≤ 53 → ¬ D x) (hk : 2 ≤ k0) (hm : 136 ≤ n0) (k : ∀ α' S', pR (fun x => D x ∨ (52 ≤ x ∧ x ≤ 53)) (fun x => C x ∨ (52 ≤ x ∧ x ≤ 53) ∨ x = 5) α' S0 S' → pS D (fun x => x = 5) α S α' S' → Φ () S') : rX1_init F k0 n0 A S Φ := by
  have G0 : pS D (fun x => x = 5) α S α S := pS.rf
  unfold rX1_init
  simp only [show ((8 : Int32)).toNatClampNeg = 8 from by decide, show ((128 : Int32)).toNatClampNeg = 128 from by decide]
  refine ⟨by decide, by omega, by omega, by decide, fun q2 hq2 => ?_⟩
  refine pNI (t := 52) P (hD (52) (by omega)) (by decide) ⟨by decide, by decide⟩ (by decide) (by decide) (fun j => c_none 52 j (by decide)) (fun _ => rfl) hq2 (fun α1 S1 P1 H1 e1 => ?_)
  have V1 := H1.rawP P1 W (hi) (fun z => z) (fun _ => Or.inl)
  have G1 := pS.tr G0 H1 (fun _ z => z) (fun _ z _ => z) (fun _ z _ => z.elim)
  have a1 : α1 5 = A := (H1 _ (hi)).1.trans eA
  refine pSetA (t := 52) P1 ((Or.inl hi)) (pno hn (by omega)) a1 V1 ((Or.inr rfl)) e1 (fun S2 P2 H2 W2 => ?_)
  have G2 := pS.tr G1 H2 (fun _ z => (Or.inl z)) (fun _ z _ => z) (fun _ z _ => z)
  refine ⟨by decide, by omega, by omega, by decide, fun q6 hq6 => ?_⟩
  refine pNI (t := 53) P2 (pno (hD (53) (by omega)) (by omega)) (by decide) ⟨by decide, by decide⟩ (by decide) (by decide) (fun j => c_none 53 j (by decide)) (fun _ => rfl) hq6 (fun α3 S3 P3 H3 e3 => ?_)
  have V3 := H3.rawP P3 W2 ((Or.inl hi)) (fun z => z) (fun _ => Or.inl)
  have G3 := pS.tr G2 H3 (fun _ z => (Or.inl z)) (fun _ z _ => z) (fun _ z _ => z.elim)
  have a3 : α3 5 = A := (H3 _ ((Or.inl hi))).1.trans a1
  refine pSetA (t := 53) P3 ((Or.inl (Or.inl hi))) (pno (pno hn (by omega)) (by omega)) a3 V3 ((Or.inr rfl)) e3 (fun S4 P4 H4 W4 => ?_)
  have G4 := pS.tr G3 H4 (fun _ z => (Or.inl (Or.inl z))) (fun _ z _ => z) (fun _ z _ => z)
  have PF := pFin P4 ((Or.inl (Or.inl hi))) W4 (by decide) (cF_no (by decide)) (cSt (by decide)) (fun k => cRA_99 (Or.inr (by decide)))
  refine k _ _ (PF.to (fun x => ?_) (fun x => ?_)) G4
  · by_cases h : D x <;> simp only [h, true_or, false_or] <;> omega
  · intro h
    by_cases h2 : C x
    · simp only [h2, true_or]
    · simp only [h2, false_or] at h ⊢
      omega
set_option maxHeartbeats 4000000 in
theorem init_X8 {D C : Nat → Prop} {α : Nat → Nat} {S0 S : wPS} {A F k0 n0 : Nat} {Φ : Unit → wPS → Prop} (P : pR D C α S0 S) (hi : D 6) (hn : ¬ C 6) (eA : α 6 = A) (W : pRaw D α S 6 (fun _ => 0) (fun _ => none)) (hD : ∀ x, 54 ≤ x ∧ x ≤ 69 → ¬ D x) (hk : 16 ≤ k0) (hm : 66 ≤ n0) (k : ∀ α' S', pR (fun x => D x ∨ (54 ≤ x ∧ x ≤ 69)) (fun x => C x ∨ (54 ≤ x ∧ x ≤ 69) ∨ x = 6) α' S0 S' → pS D (fun x => x = 6) α S α' S' → Φ () S') : rX8_init F k0 n0 A S Φ := by
  have G0 : pS D (fun x => x = 6) α S α S := pS.rf
  unfold rX8_init
  simp only [show ((4 : Int32)).toNatClampNeg = 4 from by decide, show ((5 : Int32)).toNatClampNeg = 5 from by decide]
  refine ⟨by decide, by omega, by omega, by decide, fun q2 hq2 => ?_⟩
  refine pNJ (t := 54) P (hD (54) (by omega)) (by decide) (by decide) (by decide) (fun j => c_none 54 j (by decide)) (fun _ => rfl) hq2 (fun α1 S1 P1 H1 e1 => ?_)
  have V1 := H1.rawP P1 W (hi) (fun z => z) (fun _ => Or.inl)
  have G1 := pS.tr G0 H1 (fun _ z => z) (fun _ z _ => z) (fun _ z _ => z.elim)
  have a1 : α1 6 = A := (H1 _ (hi)).1.trans eA
  refine pSetA (t := 54) P1 ((Or.inl hi)) (pno hn (by omega)) a1 V1 ((Or.inr rfl)) e1 (fun S2 P2 H2 W2 => ?_)
  have G2 := pS.tr G1 H2 (fun _ z => (Or.inl z)) (fun _ z _ => z) (fun _ z _ => z)
  refine ⟨by decide, by decide, by decide, by decide, by omega, by omega, fun q6 r7 h1q6 h2q6 h3q6 => ?_⟩
  refine pNT (t := 55) P2 (fun y a b => (pno (hD y (by omega)) (by omega))) (by decide) (fun y a b => c_T55 y a b) (by decide) (by decide) (by decide) (fun y a b => c_L55 y a b) (fun y a b => c_m55 y a b) (fun y a b => c_r55 y a b) (fun y a b => c_a55 y a b) (fun k u h => c_k55 k u h) h1q6 h2q6 h3q6 (fun α3 S3 P3 H3 e3 => ?_)
  have V3 := H3.rawP P3 W2 ((Or.inl hi)) (fun z => z) (fun _ => Or.inl)
  have G3 := pS.tr G2 H3 (fun _ z => (Or.inl z)) (fun _ z _ => z) (fun _ z _ => z.elim)
  have a3 : α3 6 = A := (H3 _ ((Or.inl hi))).1.trans a1
  refine pSetA (t := 55) P3 ((Or.inl (Or.inl hi))) (pno (pno hn (by omega)) (by omega)) a3 V3 ((Or.inr (by omega))) e3 (fun S4 P4 H4 W4 => ?_)
  have G4 := pS.tr G3 H4 (fun _ z => (Or.inl (Or.inl z))) (fun _ z _ => z) (fun _ z _ => z)
  refine ⟨by decide, by omega, by omega, by decide, fun q13 hq13 => ?_⟩
  refine pNJ (t := 60) P4 (pno (pno (hD (60) (by omega)) (by omega)) (by omega)) (by decide) (by decide) (by decide) (fun j => c_none 60 j (by decide)) (fun _ => rfl) hq13 (fun α5 S5 P5 H5 e5 => ?_)
  have V5 := H5.rawP P5 W4 ((Or.inl (Or.inl hi))) (fun z => z) (fun _ => Or.inl)
  have G5 := pS.tr G4 H5 (fun _ z => (Or.inl (Or.inl z))) (fun _ z _ => z) (fun _ z _ => z.elim)
  have a5 : α5 6 = A := (H5 _ ((Or.inl (Or.inl hi)))).1.trans a3
  refine pSetA (t := 60) P5 ((Or.inl (Or.inl (Or.inl hi)))) (pno (pno (pno hn (by omega)) (by omega)) (by omega)) a5 V5 ((Or.inr rfl)) e5 (fun S6 P6 H6 W6 => ?_)
  have G6 := pS.tr G5 H6 (fun _ z => (Or.inl (Or.inl (Or.inl z)))) (fun _ z _ => z) (fun _ z _ => z)
  refine ⟨by decide, by decide, by decide, by decide, by omega, by omega, fun q17 r18 h1q17 h2q17 h3q17 => ?_⟩
  refine pNT (t := 61) P6 (fun y a b => (pno (pno (pno (hD y (by omega)) (by omega)) (by omega)) (by omega))) (by decide) (fun y a b => c_T61 y a b) (by decide) (by decide) (by decide) (fun y a b => c_L61 y a b) (fun y a b => c_m61 y a b) (fun y a b => c_r61 y a b) (fun y a b => c_a61 y a b) (fun k u h => c_k61 k u h) h1q17 h2q17 h3q17 (fun α7 S7 P7 H7 e7 => ?_)
  have V7 := H7.rawP P7 W6 ((Or.inl (Or.inl (Or.inl hi)))) (fun z => z) (fun _ => Or.inl)
  have G7 := pS.tr G6 H7 (fun _ z => (Or.inl (Or.inl (Or.inl z)))) (fun _ z _ => z) (fun _ z _ => z.elim)
  have a7 : α7 6 = A := (H7 _ ((Or.inl (Or.inl (Or.inl hi))))).1.trans a5
  refine pSetA (t := 61) P7 ((Or.inl (Or.inl (Or.inl (Or.inl hi))))) (pno (pno (pno (pno hn (by omega)) (by omega)) (by omega)) (by omega)) a7 V7 ((Or.inr (by omega))) e7 (fun S8 P8 H8 W8 => ?_)
  have G8 := pS.tr G7 H8 (fun _ z => (Or.inl (Or.inl (Or.inl (Or.inl z))))) (fun _ z _ => z) (fun _ z _ => z)
  refine ⟨by decide, by omega, by omega, by decide, fun q24 hq24 => ?_⟩
  refine pNI (t := 67) P8 (pno (pno (pno (pno (hD (67) (by omega)) (by omega)) (by omega)) (by omega)) (by omega)) (by decide) ⟨by decide, by decide⟩ (by decide) (by decide) (fun j => c_none 67 j (by decide)) (fun _ => rfl) hq24 (fun α9 S9 P9 H9 e9 => ?_)
  have V9 := H9.rawP P9 W8 ((Or.inl (Or.inl (Or.inl (Or.inl hi))))) (fun z => z) (fun _ => Or.inl)
  have G9 := pS.tr G8 H9 (fun _ z => (Or.inl (Or.inl (Or.inl (Or.inl z))))) (fun _ z _ => z) (fun _ z _ => z.elim)
  have a9 : α9 6 = A := (H9 _ ((Or.inl (Or.inl (Or.inl (Or.inl hi)))))).1.trans a7
  refine pSetA (t := 67) P9 ((Or.inl (Or.inl (Or.inl (Or.inl (Or.inl hi)))))) (pno (pno (pno (pno (pno hn (by omega)) (by omega)) (by omega)) (by omega)) (by omega)) a9 V9 ((Or.inr rfl)) e9 (fun S10 P10 H10 W10 => ?_)
  have G10 := pS.tr G9 H10 (fun _ z => (Or.inl (Or.inl (Or.inl (Or.inl (Or.inl z)))))) (fun _ z _ => z) (fun _ z _ => z)
  refine ⟨by decide, by omega, by omega, by decide, fun q28 hq28 => ?_⟩
  refine pNJ (t := 68) P10 (pno (pno (pno (pno (pno (hD (68) (by omega)) (by omega)) (by omega)) (by omega)) (by omega)) (by omega)) (by decide) (by decide) (by decide) (fun j => c_none 68 j (by decide)) (fun _ => rfl) hq28 (fun α11 S11 P11 H11 e11 => ?_)
  have V11 := H11.rawP P11 W10 ((Or.inl (Or.inl (Or.inl (Or.inl (Or.inl hi)))))) (fun z => z) (fun _ => Or.inl)
  have G11 := pS.tr G10 H11 (fun _ z => (Or.inl (Or.inl (Or.inl (Or.inl (Or.inl z)))))) (fun _ z _ => z) (fun _ z _ => z.elim)
  have a11 : α11 6 = A := (H11 _ ((Or.inl (Or.inl (Or.inl (Or.inl (Or.inl hi))))))).1.trans a9
  refine pSetA (t := 68) P11 ((Or.inl (Or.inl (Or.inl (Or.inl (Or.inl (Or.inl hi))))))) (pno (pno (pno (pno (pno (pno hn (by omega)) (by omega)) (by omega)) (by omega)) (by omega)) (by omega)) a11 V11 ((Or.inr rfl)) e11 (fun S12 P12 H12 W12 => ?_)
  have G12 := pS.tr G11 H12 (fun _ z => (Or.inl (Or.inl (Or.inl (Or.inl (Or.inl (Or.inl z))))))) (fun _ z _ => z) (fun _ z _ => z)
  refine ⟨by decide, by omega, by omega, by decide, fun q32 hq32 => ?_⟩
  refine pNJ (t := 69) P12 (pno (pno (pno (pno (pno (pno (hD (69) (by omega)) (by omega)) (by omega)) (by omega)) (by omega)) (by omega)) (by omega)) (by decide) (by decide) (by decide) (fun j => c_none 69 j (by decide)) (fun _ => rfl) hq32 (fun α13 S13 P13 H13 e13 => ?_)
  have V13 := H13.rawP P13 W12 ((Or.inl (Or.inl (Or.inl (Or.inl (Or.inl (Or.inl hi))))))) (fun z => z) (fun _ => Or.inl)
  have G13 := pS.tr G12 H13 (fun _ z => (Or.inl (Or.inl (Or.inl (Or.inl (Or.inl (Or.inl z))))))) (fun _ z _ => z) (fun _ z _ => z.elim)
  have a13 : α13 6 = A := (H13 _ ((Or.inl (Or.inl (Or.inl (Or.inl (Or.inl (Or.inl hi)))))))).1.trans a11
  refine pSetA (t := 69) P13 ((Or.inl (Or.inl (Or.inl (Or.inl (Or.inl (Or.inl (Or.inl hi)))))))) (pno (pno (pno (pno (pno (pno (pno hn (by omega)) (by omega)) (by omega)) (by omega)) (by omega)) (by omega)) (by omega)) a13 V13 ((Or.inr rfl)) e13 (fun S14 P14 H14 W14 => ?_)
  have G14 := pS.tr G13 H14 (fun _ z => (Or.inl (Or.inl (Or.inl (Or.inl (Or.inl (Or.inl (Or.inl z)))))))) (fun _ z _ => z) (fun _ z _ => z)
  have PF := pFin P14 ((Or.inl (Or.inl (Or.inl (Or.inl (Or.inl (Or.inl (Or.inl hi)))))))) W14 (by decide) (cF_no (by decide)) (cSt (by decide)) (fun k => cRA_99 (Or.inr (by decide)))
  refine k _ _ (PF.to (fun x => ?_) (fun x => ?_)) G14
  · by_cases h : D x <;> simp only [h, true_or, false_or] <;> omega
  · intro h
    by_cases h2 : C x
    · simp only [h2, true_or]
    · simp only [h2, false_or] at h ⊢
      omega
set_option maxHeartbeats 4000000 in
theorem init_X10 {D C : Nat → Prop} {α : Nat → Nat} {S0 S : wPS} {A F k0 n0 : Nat} {Φ : Unit → wPS → Prop} (P : pR D C α S0 S) (hi : D 7) (hn : ¬ C 7) (eA : α 7 = A) (W : pRaw D α S 7 (fun _ => 0) (fun _ => none)) (hD : ∀ x, 70 ≤ x ∧ x ≤ 83 → ¬ D x) (hk : 14 ≤ k0) (hm : 2565 ≤ n0) (k : ∀ α' S', pR (fun x => D x ∨ (70 ≤ x ∧ x ≤ 83)) (fun x => C x ∨ (70 ≤ x ∧ x ≤ 83) ∨ x = 7) α' S0 S' → pS D (fun x => x = 7) α S α' S' → Φ () S') : rX10_init F k0 n0 A S Φ := by
  have G0 : pS D (fun x => x = 7) α S α S := pS.rf
  unfold rX10_init
  simp only [show ((5 : Int32)).toNatClampNeg = 5 from by decide, show ((6 : Int32)).toNatClampNeg = 6 from by decide, show ((96 : Int32)).toNatClampNeg = 96 from by decide, show ((256 : Int32)).toNatClampNeg = 256 from by decide, show ((720 : Int32)).toNatClampNeg = 720 from by decide]
  refine ⟨by decide, by decide, by decide, by decide, by omega, by omega, fun q2 r3 h1q2 h2q2 h3q2 => ?_⟩
  refine pNT (t := 70) P (fun y a b => (hD y (by omega))) (by decide) (fun y a b => c_T70 y a b) (by decide) (by decide) (by decide) (fun y a b => c_L70 y a b) (fun y a b => c_m70 y a b) (fun y a b => c_r70 y a b) (fun y a b => c_a70 y a b) (fun k u h => c_k70 k u h) h1q2 h2q2 h3q2 (fun α1 S1 P1 H1 e1 => ?_)
  have V1 := H1.rawP P1 W (hi) (fun z => z) (fun _ => Or.inl)
  have G1 := pS.tr G0 H1 (fun _ z => z) (fun _ z _ => z) (fun _ z _ => z.elim)
  have a1 : α1 7 = A := (H1 _ (hi)).1.trans eA
  refine pSetA (t := 70) P1 ((Or.inl hi)) (pno hn (by omega)) a1 V1 ((Or.inr (by omega))) e1 (fun S2 P2 H2 W2 => ?_)
  have G2 := pS.tr G1 H2 (fun _ z => (Or.inl z)) (fun _ z _ => z) (fun _ z _ => z)
  refine ⟨by decide, by omega, by omega, by decide, fun q9 hq9 => ?_⟩
  refine pNI (t := 76) P2 (pno (hD (76) (by omega)) (by omega)) (by decide) ⟨by decide, by decide⟩ (by decide) (by decide) (fun j => c_none 76 j (by decide)) (fun _ => rfl) hq9 (fun α3 S3 P3 H3 e3 => ?_)
  have V3 := H3.rawP P3 W2 ((Or.inl hi)) (fun z => z) (fun _ => Or.inl)
  have G3 := pS.tr G2 H3 (fun _ z => (Or.inl z)) (fun _ z _ => z) (fun _ z _ => z.elim)
  have a3 : α3 7 = A := (H3 _ ((Or.inl hi))).1.trans a1
  refine pSetA (t := 76) P3 ((Or.inl (Or.inl hi))) (pno (pno hn (by omega)) (by omega)) a3 V3 ((Or.inr rfl)) e3 (fun S4 P4 H4 W4 => ?_)
  have G4 := pS.tr G3 H4 (fun _ z => (Or.inl (Or.inl z))) (fun _ z _ => z) (fun _ z _ => z)
  refine ⟨by decide, by omega, by omega, by decide, fun q13 hq13 => ?_⟩
  refine pNI (t := 77) P4 (pno (pno (hD (77) (by omega)) (by omega)) (by omega)) (by decide) ⟨by decide, by decide⟩ (by decide) (by decide) (fun j => c_none 77 j (by decide)) (fun _ => rfl) hq13 (fun α5 S5 P5 H5 e5 => ?_)
  have V5 := H5.rawP P5 W4 ((Or.inl (Or.inl hi))) (fun z => z) (fun _ => Or.inl)
  have G5 := pS.tr G4 H5 (fun _ z => (Or.inl (Or.inl z))) (fun _ z _ => z) (fun _ z _ => z.elim)
  have a5 : α5 7 = A := (H5 _ ((Or.inl (Or.inl hi)))).1.trans a3
  refine pSetA (t := 77) P5 ((Or.inl (Or.inl (Or.inl hi)))) (pno (pno (pno hn (by omega)) (by omega)) (by omega)) a5 V5 ((Or.inr rfl)) e5 (fun S6 P6 H6 W6 => ?_)
  have G6 := pS.tr G5 H6 (fun _ z => (Or.inl (Or.inl (Or.inl z)))) (fun _ z _ => z) (fun _ z _ => z)
  refine ⟨by decide, by omega, by omega, by decide, fun q17 hq17 => ?_⟩
  refine pNI (t := 78) P6 (pno (pno (pno (hD (78) (by omega)) (by omega)) (by omega)) (by omega)) (by decide) ⟨by decide, by decide⟩ (by decide) (by decide) (fun j => c_none 78 j (by decide)) (fun _ => rfl) hq17 (fun α7 S7 P7 H7 e7 => ?_)
  have V7 := H7.rawP P7 W6 ((Or.inl (Or.inl (Or.inl hi)))) (fun z => z) (fun _ => Or.inl)
  have G7 := pS.tr G6 H7 (fun _ z => (Or.inl (Or.inl (Or.inl z)))) (fun _ z _ => z) (fun _ z _ => z.elim)
  have a7 : α7 7 = A := (H7 _ ((Or.inl (Or.inl (Or.inl hi))))).1.trans a5
  refine pSetA (t := 78) P7 ((Or.inl (Or.inl (Or.inl (Or.inl hi))))) (pno (pno (pno (pno hn (by omega)) (by omega)) (by omega)) (by omega)) a7 V7 ((Or.inr rfl)) e7 (fun S8 P8 H8 W8 => ?_)
  have G8 := pS.tr G7 H8 (fun _ z => (Or.inl (Or.inl (Or.inl (Or.inl z))))) (fun _ z _ => z) (fun _ z _ => z)
  refine ⟨by decide, by omega, by omega, by decide, fun q21 hq21 => ?_⟩
  refine pNI (t := 79) P8 (pno (pno (pno (pno (hD (79) (by omega)) (by omega)) (by omega)) (by omega)) (by omega)) (by decide) ⟨by decide, by decide⟩ (by decide) (by decide) (fun j => c_none 79 j (by decide)) (fun _ => rfl) hq21 (fun α9 S9 P9 H9 e9 => ?_)
  have V9 := H9.rawP P9 W8 ((Or.inl (Or.inl (Or.inl (Or.inl hi))))) (fun z => z) (fun _ => Or.inl)
  have G9 := pS.tr G8 H9 (fun _ z => (Or.inl (Or.inl (Or.inl (Or.inl z))))) (fun _ z _ => z) (fun _ z _ => z.elim)
  have a9 : α9 7 = A := (H9 _ ((Or.inl (Or.inl (Or.inl (Or.inl hi)))))).1.trans a7
  refine pSetA (t := 79) P9 ((Or.inl (Or.inl (Or.inl (Or.inl (Or.inl hi)))))) (pno (pno (pno (pno (pno hn (by omega)) (by omega)) (by omega)) (by omega)) (by omega)) a9 V9 ((Or.inr rfl)) e9 (fun S10 P10 H10 W10 => ?_)
  have G10 := pS.tr G9 H10 (fun _ z => (Or.inl (Or.inl (Or.inl (Or.inl (Or.inl z)))))) (fun _ z _ => z) (fun _ z _ => z)
  refine ⟨by decide, by omega, by omega, by decide, fun q25 hq25 => ?_⟩
  refine pNI (t := 80) P10 (pno (pno (pno (pno (pno (hD (80) (by omega)) (by omega)) (by omega)) (by omega)) (by omega)) (by omega)) (by decide) ⟨by decide, by decide⟩ (by decide) (by decide) (fun j => c_none 80 j (by decide)) (fun _ => rfl) hq25 (fun α11 S11 P11 H11 e11 => ?_)
  have V11 := H11.rawP P11 W10 ((Or.inl (Or.inl (Or.inl (Or.inl (Or.inl hi)))))) (fun z => z) (fun _ => Or.inl)
  have G11 := pS.tr G10 H11 (fun _ z => (Or.inl (Or.inl (Or.inl (Or.inl (Or.inl z)))))) (fun _ z _ => z) (fun _ z _ => z.elim)
  have a11 : α11 7 = A := (H11 _ ((Or.inl (Or.inl (Or.inl (Or.inl (Or.inl hi))))))).1.trans a9
  refine pSetA (t := 80) P11 ((Or.inl (Or.inl (Or.inl (Or.inl (Or.inl (Or.inl hi))))))) (pno (pno (pno (pno (pno (pno hn (by omega)) (by omega)) (by omega)) (by omega)) (by omega)) (by omega)) a11 V11 ((Or.inr rfl)) e11 (fun S12 P12 H12 W12 => ?_)
  have G12 := pS.tr G11 H12 (fun _ z => (Or.inl (Or.inl (Or.inl (Or.inl (Or.inl (Or.inl z))))))) (fun _ z _ => z) (fun _ z _ => z)
  refine ⟨by decide, by omega, by omega, by decide, fun q29 hq29 => ?_⟩
  refine pNI (t := 81) P12 (pno (pno (pno (pno (pno (pno (hD (81) (by omega)) (by omega)) (by omega)) (by omega)) (by omega)) (by omega)) (by omega)) (by decide) ⟨by decide, by decide⟩ (by decide) (by decide) (fun j => c_none 81 j (by decide)) (fun _ => rfl) hq29 (fun α13 S13 P13 H13 e13 => ?_)
  have V13 := H13.rawP P13 W12 ((Or.inl (Or.inl (Or.inl (Or.inl (Or.inl (Or.inl hi))))))) (fun z => z) (fun _ => Or.inl)
  have G13 := pS.tr G12 H13 (fun _ z => (Or.inl (Or.inl (Or.inl (Or.inl (Or.inl (Or.inl z))))))) (fun _ z _ => z) (fun _ z _ => z.elim)
  have a13 : α13 7 = A := (H13 _ ((Or.inl (Or.inl (Or.inl (Or.inl (Or.inl (Or.inl hi)))))))).1.trans a11
  refine pSetA (t := 81) P13 ((Or.inl (Or.inl (Or.inl (Or.inl (Or.inl (Or.inl (Or.inl hi)))))))) (pno (pno (pno (pno (pno (pno (pno hn (by omega)) (by omega)) (by omega)) (by omega)) (by omega)) (by omega)) (by omega)) a13 V13 ((Or.inr rfl)) e13 (fun S14 P14 H14 W14 => ?_)
  have G14 := pS.tr G13 H14 (fun _ z => (Or.inl (Or.inl (Or.inl (Or.inl (Or.inl (Or.inl (Or.inl z)))))))) (fun _ z _ => z) (fun _ z _ => z)
  refine ⟨by decide, by omega, by omega, by decide, fun q33 hq33 => ?_⟩
  refine pNI (t := 82) P14 (pno (pno (pno (pno (pno (pno (pno (hD (82) (by omega)) (by omega)) (by omega)) (by omega)) (by omega)) (by omega)) (by omega)) (by omega)) (by decide) ⟨by decide, by decide⟩ (by decide) (by decide) (fun j => c_none 82 j (by decide)) (fun _ => rfl) hq33 (fun α15 S15 P15 H15 e15 => ?_)
  have V15 := H15.rawP P15 W14 ((Or.inl (Or.inl (Or.inl (Or.inl (Or.inl (Or.inl (Or.inl hi)))))))) (fun z => z) (fun _ => Or.inl)
  have G15 := pS.tr G14 H15 (fun _ z => (Or.inl (Or.inl (Or.inl (Or.inl (Or.inl (Or.inl (Or.inl z)))))))) (fun _ z _ => z) (fun _ z _ => z.elim)
  have a15 : α15 7 = A := (H15 _ ((Or.inl (Or.inl (Or.inl (Or.inl (Or.inl (Or.inl (Or.inl hi))))))))).1.trans a13
  refine pSetA (t := 82) P15 ((Or.inl (Or.inl (Or.inl (Or.inl (Or.inl (Or.inl (Or.inl (Or.inl hi))))))))) (pno (pno (pno (pno (pno (pno (pno (pno hn (by omega)) (by omega)) (by omega)) (by omega)) (by omega)) (by omega)) (by omega)) (by omega)) a15 V15 ((Or.inr rfl)) e15 (fun S16 P16 H16 W16 => ?_)
  have G16 := pS.tr G15 H16 (fun _ z => (Or.inl (Or.inl (Or.inl (Or.inl (Or.inl (Or.inl (Or.inl (Or.inl z))))))))) (fun _ z _ => z) (fun _ z _ => z)
  refine ⟨by decide, by omega, by omega, by decide, fun q37 hq37 => ?_⟩
  refine pNI (t := 83) P16 (pno (pno (pno (pno (pno (pno (pno (pno (hD (83) (by omega)) (by omega)) (by omega)) (by omega)) (by omega)) (by omega)) (by omega)) (by omega)) (by omega)) (by decide) ⟨by decide, by decide⟩ (by decide) (by decide) (fun j => c_none 83 j (by decide)) (fun _ => rfl) hq37 (fun α17 S17 P17 H17 e17 => ?_)
  have V17 := H17.rawP P17 W16 ((Or.inl (Or.inl (Or.inl (Or.inl (Or.inl (Or.inl (Or.inl (Or.inl hi))))))))) (fun z => z) (fun _ => Or.inl)
  have G17 := pS.tr G16 H17 (fun _ z => (Or.inl (Or.inl (Or.inl (Or.inl (Or.inl (Or.inl (Or.inl (Or.inl z))))))))) (fun _ z _ => z) (fun _ z _ => z.elim)
  have a17 : α17 7 = A := (H17 _ ((Or.inl (Or.inl (Or.inl (Or.inl (Or.inl (Or.inl (Or.inl (Or.inl hi)))))))))).1.trans a15
  refine pSetA (t := 83) P17 ((Or.inl (Or.inl (Or.inl (Or.inl (Or.inl (Or.inl (Or.inl (Or.inl (Or.inl hi)))))))))) (pno (pno (pno (pno (pno (pno (pno (pno (pno hn (by omega)) (by omega)) (by omega)) (by omega)) (by omega)) (by omega)) (by omega)) (by omega)) (by omega)) a17 V17 ((Or.inr rfl)) e17 (fun S18 P18 H18 W18 => ?_)
  have G18 := pS.tr G17 H18 (fun _ z => (Or.inl (Or.inl (Or.inl (Or.inl (Or.inl (Or.inl (Or.inl (Or.inl (Or.inl z)))))))))) (fun _ z _ => z) (fun _ z _ => z)
  have PF := pFin P18 ((Or.inl (Or.inl (Or.inl (Or.inl (Or.inl (Or.inl (Or.inl (Or.inl (Or.inl hi)))))))))) W18 (by decide) (cF_no (by decide)) (cSt (by decide)) (fun k => cRA_99 (Or.inr (by decide)))
  refine k _ _ (PF.to (fun x => ?_) (fun x => ?_)) G18
  · by_cases h : D x <;> simp only [h, true_or, false_or] <;> omega
  · intro h
    by_cases h2 : C x
    · simp only [h2, true_or]
    · simp only [h2, false_or] at h ⊢
      omega
set_option maxHeartbeats 4000000 in
theorem init_X6 {D C : Nat → Prop} {α : Nat → Nat} {S0 S : wPS} {A F k0 n0 : Nat} {Φ : Unit → wPS → Prop} (P : pR D C α S0 S) (hi : D 8) (hn : ¬ C 8) (eA : α 8 = A) (W : pRaw D α S 8 (fun _ => 0) (fun _ => none)) (hD : ∀ x, 84 ≤ x ∧ x ≤ 90 → ¬ D x) (hk : 7 ≤ k0) (hm : 112 ≤ n0) (k : ∀ α' S', pR (fun x => D x ∨ (84 ≤ x ∧ x ≤ 90)) (fun x => C x ∨ (84 ≤ x ∧ x ≤ 90) ∨ x = 8) α' S0 S' → pS D (fun x => x = 8) α S α' S' → Φ () S') : rX6_init F k0 n0 A S Φ := by
  have G0 : pS D (fun x => x = 8) α S α S := pS.rf
  unfold rX6_init
  simp only [show ((8 : Int32)).toNatClampNeg = 8 from by decide, show ((64 : Int32)).toNatClampNeg = 64 from by decide]
  refine ⟨by decide, by omega, by omega, by decide, fun q2 hq2 => ?_⟩
  refine pNI (t := 84) P (hD (84) (by omega)) (by decide) ⟨by decide, by decide⟩ (by decide) (by decide) (fun j => c_none 84 j (by decide)) (fun _ => rfl) hq2 (fun α1 S1 P1 H1 e1 => ?_)
  have V1 := H1.rawP P1 W (hi) (fun z => z) (fun _ => Or.inl)
  have G1 := pS.tr G0 H1 (fun _ z => z) (fun _ z _ => z) (fun _ z _ => z.elim)
  have a1 : α1 8 = A := (H1 _ (hi)).1.trans eA
  refine pSetA (t := 84) P1 ((Or.inl hi)) (pno hn (by omega)) a1 V1 ((Or.inr rfl)) e1 (fun S2 P2 H2 W2 => ?_)
  have G2 := pS.tr G1 H2 (fun _ z => (Or.inl z)) (fun _ z _ => z) (fun _ z _ => z)
  refine ⟨by decide, by omega, by omega, by decide, fun q6 hq6 => ?_⟩
  refine pNI (t := 85) P2 (pno (hD (85) (by omega)) (by omega)) (by decide) ⟨by decide, by decide⟩ (by decide) (by decide) (fun j => c_none 85 j (by decide)) (fun _ => rfl) hq6 (fun α3 S3 P3 H3 e3 => ?_)
  have V3 := H3.rawP P3 W2 ((Or.inl hi)) (fun z => z) (fun _ => Or.inl)
  have G3 := pS.tr G2 H3 (fun _ z => (Or.inl z)) (fun _ z _ => z) (fun _ z _ => z.elim)
  have a3 : α3 8 = A := (H3 _ ((Or.inl hi))).1.trans a1
  refine pSetA (t := 85) P3 ((Or.inl (Or.inl hi))) (pno (pno hn (by omega)) (by omega)) a3 V3 ((Or.inr rfl)) e3 (fun S4 P4 H4 W4 => ?_)
  have G4 := pS.tr G3 H4 (fun _ z => (Or.inl (Or.inl z))) (fun _ z _ => z) (fun _ z _ => z)
  refine ⟨by decide, by omega, by omega, by decide, fun q10 hq10 => ?_⟩
  refine pNI (t := 86) P4 (pno (pno (hD (86) (by omega)) (by omega)) (by omega)) (by decide) ⟨by decide, by decide⟩ (by decide) (by decide) (fun j => c_none 86 j (by decide)) (fun _ => rfl) hq10 (fun α5 S5 P5 H5 e5 => ?_)
  have V5 := H5.rawP P5 W4 ((Or.inl (Or.inl hi))) (fun z => z) (fun _ => Or.inl)
  have G5 := pS.tr G4 H5 (fun _ z => (Or.inl (Or.inl z))) (fun _ z _ => z) (fun _ z _ => z.elim)
  have a5 : α5 8 = A := (H5 _ ((Or.inl (Or.inl hi)))).1.trans a3
  refine pSetA (t := 86) P5 ((Or.inl (Or.inl (Or.inl hi)))) (pno (pno (pno hn (by omega)) (by omega)) (by omega)) a5 V5 ((Or.inr rfl)) e5 (fun S6 P6 H6 W6 => ?_)
  have G6 := pS.tr G5 H6 (fun _ z => (Or.inl (Or.inl (Or.inl z)))) (fun _ z _ => z) (fun _ z _ => z)
  refine ⟨by decide, by omega, by omega, by decide, fun q14 hq14 => ?_⟩
  refine pNI (t := 87) P6 (pno (pno (pno (hD (87) (by omega)) (by omega)) (by omega)) (by omega)) (by decide) ⟨by decide, by decide⟩ (by decide) (by decide) (fun j => c_none 87 j (by decide)) (fun _ => rfl) hq14 (fun α7 S7 P7 H7 e7 => ?_)
  have V7 := H7.rawP P7 W6 ((Or.inl (Or.inl (Or.inl hi)))) (fun z => z) (fun _ => Or.inl)
  have G7 := pS.tr G6 H7 (fun _ z => (Or.inl (Or.inl (Or.inl z)))) (fun _ z _ => z) (fun _ z _ => z.elim)
  have a7 : α7 8 = A := (H7 _ ((Or.inl (Or.inl (Or.inl hi))))).1.trans a5
  refine pSetA (t := 87) P7 ((Or.inl (Or.inl (Or.inl (Or.inl hi))))) (pno (pno (pno (pno hn (by omega)) (by omega)) (by omega)) (by omega)) a7 V7 ((Or.inr rfl)) e7 (fun S8 P8 H8 W8 => ?_)
  have G8 := pS.tr G7 H8 (fun _ z => (Or.inl (Or.inl (Or.inl (Or.inl z))))) (fun _ z _ => z) (fun _ z _ => z)
  refine ⟨by decide, by omega, by omega, by decide, fun q18 hq18 => ?_⟩
  refine pNI (t := 88) P8 (pno (pno (pno (pno (hD (88) (by omega)) (by omega)) (by omega)) (by omega)) (by omega)) (by decide) ⟨by decide, by decide⟩ (by decide) (by decide) (fun j => c_none 88 j (by decide)) (fun _ => rfl) hq18 (fun α9 S9 P9 H9 e9 => ?_)
  have V9 := H9.rawP P9 W8 ((Or.inl (Or.inl (Or.inl (Or.inl hi))))) (fun z => z) (fun _ => Or.inl)
  have G9 := pS.tr G8 H9 (fun _ z => (Or.inl (Or.inl (Or.inl (Or.inl z))))) (fun _ z _ => z) (fun _ z _ => z.elim)
  have a9 : α9 8 = A := (H9 _ ((Or.inl (Or.inl (Or.inl (Or.inl hi)))))).1.trans a7
  refine pSetA (t := 88) P9 ((Or.inl (Or.inl (Or.inl (Or.inl (Or.inl hi)))))) (pno (pno (pno (pno (pno hn (by omega)) (by omega)) (by omega)) (by omega)) (by omega)) a9 V9 ((Or.inr rfl)) e9 (fun S10 P10 H10 W10 => ?_)
  have G10 := pS.tr G9 H10 (fun _ z => (Or.inl (Or.inl (Or.inl (Or.inl (Or.inl z)))))) (fun _ z _ => z) (fun _ z _ => z)
  refine ⟨by decide, by omega, by omega, by decide, fun q22 hq22 => ?_⟩
  refine pNI (t := 89) P10 (pno (pno (pno (pno (pno (hD (89) (by omega)) (by omega)) (by omega)) (by omega)) (by omega)) (by omega)) (by decide) ⟨by decide, by decide⟩ (by decide) (by decide) (fun j => c_none 89 j (by decide)) (fun _ => rfl) hq22 (fun α11 S11 P11 H11 e11 => ?_)
  have V11 := H11.rawP P11 W10 ((Or.inl (Or.inl (Or.inl (Or.inl (Or.inl hi)))))) (fun z => z) (fun _ => Or.inl)
  have G11 := pS.tr G10 H11 (fun _ z => (Or.inl (Or.inl (Or.inl (Or.inl (Or.inl z)))))) (fun _ z _ => z) (fun _ z _ => z.elim)
  have a11 : α11 8 = A := (H11 _ ((Or.inl (Or.inl (Or.inl (Or.inl (Or.inl hi))))))).1.trans a9
  refine pSetA (t := 89) P11 ((Or.inl (Or.inl (Or.inl (Or.inl (Or.inl (Or.inl hi))))))) (pno (pno (pno (pno (pno (pno hn (by omega)) (by omega)) (by omega)) (by omega)) (by omega)) (by omega)) a11 V11 ((Or.inr rfl)) e11 (fun S12 P12 H12 W12 => ?_)
  have G12 := pS.tr G11 H12 (fun _ z => (Or.inl (Or.inl (Or.inl (Or.inl (Or.inl (Or.inl z))))))) (fun _ z _ => z) (fun _ z _ => z)
  refine ⟨by decide, by omega, by omega, by decide, fun q26 hq26 => ?_⟩
  refine pNI (t := 90) P12 (pno (pno (pno (pno (pno (pno (hD (90) (by omega)) (by omega)) (by omega)) (by omega)) (by omega)) (by omega)) (by omega)) (by decide) ⟨by decide, by decide⟩ (by decide) (by decide) (fun j => c_none 90 j (by decide)) (fun _ => rfl) hq26 (fun α13 S13 P13 H13 e13 => ?_)
  have V13 := H13.rawP P13 W12 ((Or.inl (Or.inl (Or.inl (Or.inl (Or.inl (Or.inl hi))))))) (fun z => z) (fun _ => Or.inl)
  have G13 := pS.tr G12 H13 (fun _ z => (Or.inl (Or.inl (Or.inl (Or.inl (Or.inl (Or.inl z))))))) (fun _ z _ => z) (fun _ z _ => z.elim)
  have a13 : α13 8 = A := (H13 _ ((Or.inl (Or.inl (Or.inl (Or.inl (Or.inl (Or.inl hi)))))))).1.trans a11
  refine pSetA (t := 90) P13 ((Or.inl (Or.inl (Or.inl (Or.inl (Or.inl (Or.inl (Or.inl hi)))))))) (pno (pno (pno (pno (pno (pno (pno hn (by omega)) (by omega)) (by omega)) (by omega)) (by omega)) (by omega)) (by omega)) a13 V13 ((Or.inr rfl)) e13 (fun S14 P14 H14 W14 => ?_)
  have G14 := pS.tr G13 H14 (fun _ z => (Or.inl (Or.inl (Or.inl (Or.inl (Or.inl (Or.inl (Or.inl z)))))))) (fun _ z _ => z) (fun _ z _ => z)
  have PF := pFin P14 ((Or.inl (Or.inl (Or.inl (Or.inl (Or.inl (Or.inl (Or.inl hi)))))))) W14 (by decide) (cF_no (by decide)) (cSt (by decide)) (fun k => cRA_99 (Or.inr (by decide)))
  refine k _ _ (PF.to (fun x => ?_) (fun x => ?_)) G14
  · by_cases h : D x <;> simp only [h, true_or, false_or] <;> omega
  · intro h
    by_cases h2 : C x
    · simp only [h2, true_or]
    · simp only [h2, false_or] at h ⊢
      omega
set_option maxHeartbeats 4000000 in
theorem init_X9 {r : Nat} (hr : mK r = 9) {D C : Nat → Prop} {α : Nat → Nat} {S0 S : wPS} {A F k0 n0 : Nat} {Φ : Unit → wPS → Prop} (P : pR D C α S0 S) (hi : D r) (hn : ¬ C r) (eA : α r = A) (W : pRaw D α S r (fun _ => 0) (fun _ => none)) (hD : ∀ x, x = r + 1 → ¬ D x) (hk : 1 ≤ k0) (hm : 16 ≤ n0) (k : ∀ α' S', pR (fun x => D x ∨ (x = r + 1)) (fun x => C x ∨ (x = r + 1) ∨ x = r) α' S0 S' → pS D (fun x => x = r) α S α' S' → Φ () S') : rX9_init F k0 n0 A S Φ := by
  have G0 : pS D (fun x => x = r) α S α S := pS.rf
  unfold rX9_init
  simp only [show ((16 : Int32)).toNatClampNeg = 16 from by decide]
  refine ⟨by decide, by omega, by omega, by decide, fun q2 hq2 => ?_⟩
  refine pNI (t := r + 1) P (hD (r + 1) (by omega)) (by rw [show cK (r + 1) = 13 from cK_row hr]) ⟨by decide, by decide⟩ (cLen_row hr) (cm_row hr) (cr_row hr) (ca_row hr) hq2 (fun α1 S1 P1 H1 e1 => ?_)
  have V1 := H1.rawP P1 W (hi) (fun z => z) (fun _ => Or.inl)
  have G1 := pS.tr G0 H1 (fun _ z => z) (fun _ z _ => z) (fun _ z _ => z.elim)
  have a1 : α1 r = A := (H1 _ (hi)).1.trans eA
  refine pSetA (t := r + 1) P1 ((Or.inl hi)) (pno hn (by omega)) a1 V1 ((Or.inr rfl)) e1 (fun S2 P2 H2 W2 => ?_)
  have G2 := pS.tr G1 H2 (fun _ z => (Or.inl z)) (fun _ z _ => z) (fun _ z _ => z)
  have PF := pFin P2 ((Or.inl hi)) W2 (by have := hr; omega) (cF_no (by omega)) (cRow hr) (cn_row hr)
  refine k _ _ (PF.to (fun x => ?_) (fun x => ?_)) G2
  · by_cases h : D x <;> simp only [h, true_or, false_or] <;> omega
  · intro h
    by_cases h2 : C x
    · simp only [h2, true_or]
    · simp only [h2, false_or] at h ⊢
      omega
set_option maxHeartbeats 4000000 in
theorem init_X3 {e : Nat} (he : mK e = 3) {D C : Nat → Prop} {α : Nat → Nat} {S0 S : wPS} {A F k0 n0 : Nat} {Φ : Unit → wPS → Prop} (P : pR D C α S0 S) (hi : D e) (hn : ¬ C e) (eA : α e = A) (W : pRaw D α S e (fun _ => 0) (fun _ => none)) (hD : ∀ x, e + 1 ≤ x ∧ x ≤ e + 5 → ¬ D x) (hk : 5 ≤ k0) (hm : 172 ≤ n0) (k : ∀ α' S', pR (fun x => D x ∨ (e + 1 ≤ x ∧ x ≤ e + 5)) (fun x => C x ∨ (e + 1 ≤ x ∧ x ≤ e + 5) ∨ x = e) α' S0 S' → pS D (fun x => x = e) α S α' S' → Φ () S') : rX3_init F k0 n0 A S Φ := by
  have G0 : pS D (fun x => x = e) α S α S := pS.rf
  have hC : ∀ x, e + 1 ≤ x ∧ x ≤ e + 5 → ¬ C x := fun x h z => hD x h (P.2.2.2.2 x z).1
  have hb := mK3 he
  unfold rX3_init
  simp only [show ((80 : Int32)).toNatClampNeg = 80 from by decide]
  refine pSetF P (hi) hn eA W (fun S1 P1 H1 W1 => ?_)
  have G1 := pS.tr G0 H1 (fun _ z => z) (fun _ z _ => z) (fun _ z _ => z)
  refine pSetF P1 (hi) hn eA W1 (fun S2 P2 H2 W2 => ?_)
  have G2 := pS.tr G1 H2 (fun _ z => z) (fun _ z _ => z) (fun _ z _ => z)
  refine ⟨by decide, by omega, by omega, by decide, fun q4 hq4 => ?_⟩
  refine pNI (t := e + 1) P2 (hD (e + 1) (by omega)) (cK_en he) ⟨by decide, by decide⟩ (cLen_en he) (cm_en he) (cr_en he) (ca_en he) hq4 (fun α3 S3 P3 H3 e3 => ?_)
  have V3 := H3.rawP P3 W2 (hi) (fun z => z) (fun _ => Or.inl)
  have G3 := pS.tr G2 H3 (fun _ z => z) (fun _ z _ => z) (fun _ z _ => z.elim)
  have a3 : α3 e = A := (H3 _ (hi)).1.trans eA
  refine pSetA (t := e + 1) P3 ((Or.inl hi)) (pno hn (by omega)) a3 V3 ((Or.inr rfl)) e3 (fun S4 P4 H4 W4 => ?_)
  have G4 := pS.tr G3 H4 (fun _ z => (Or.inl z)) (fun _ z _ => z) (fun _ z _ => z)
  refine ⟨by decide, ?_⟩
  refine pSetF P4 ((Or.inl hi)) (pno hn (by omega)) a3 W4 (fun S5 P5 H5 W5 => ?_)
  have G5 := pS.tr G4 H5 (fun _ z => (Or.inl z)) (fun _ z _ => z) (fun _ z _ => z)
  refine ⟨by omega, by omega, fun q10 hq10 => ?_⟩
  refine pNO (t := e + 2) P5 (pno (hD (e + 2) (by omega)) (by omega)) (cK_r2 he) hq10 (fun α6 S6 P6 H6 e6 W6 => ?_)
  have V6 := H6.rawP P6 W5 ((Or.inl hi)) (fun z => z) (fun _ => Or.inl)
  have G6 := pS.tr G5 H6 (fun _ z => (Or.inl z)) (fun _ z _ => z) (fun _ z _ => z.elim)
  have a6 : α6 e = A := (H6 _ ((Or.inl hi))).1.trans a3
  refine ⟨1, 16, by omega, by omega, ?_⟩
  refine init_X9 (r := e + 2) (mKe2 he) P6 ((Or.inr rfl)) (pno (hC (e + 2) (by omega)) (by omega)) e6 W6 (fun x hx => (pno (pno (hD x (by omega)) (by omega)) (by omega))) (by decide) (by decide) (fun α7 S7 P7 H7 => ?_)
  have V7 := H7.rawP P7 V6 ((Or.inl (Or.inl hi))) (by omega) (fun _ => Or.inl)
  have G7 := pS.tr G6 H7 (fun _ z => (Or.inl (Or.inl z))) (fun _ z _ => z) (fun x z h => absurd (z ▸ h) (hD (e + 2) (by omega)))
  have a7 : α7 e = A := (H7 _ ((Or.inl (Or.inl hi)))).1.trans a6
  have b7_q10 : α7 (e + 2) = q10 := (H7 _ ((Or.inr rfl))).1.trans e6
  refine pSetA (t := e + 2) P7 ((Or.inl (Or.inl (Or.inl hi)))) (pno (pno hn (by omega)) (by omega)) a7 V7 ((Or.inl (Or.inr rfl))) b7_q10 (fun S8 P8 H8 W8 => ?_)
  have G8 := pS.tr G7 H8 (fun _ z => (Or.inl (Or.inl (Or.inl z)))) (fun _ z _ => z) (fun _ z _ => z)
  refine ⟨by decide, ?_⟩
  refine pSetF P8 ((Or.inl (Or.inl (Or.inl hi)))) (pno (pno hn (by omega)) (by omega)) a7 W8 (fun S9 P9 H9 W9 => ?_)
  have G9 := pS.tr G8 H9 (fun _ z => (Or.inl (Or.inl (Or.inl z)))) (fun _ z _ => z) (fun _ z _ => z)
  refine ⟨by omega, by omega, fun q20 hq20 => ?_⟩
  refine pNO (t := e + 4) P9 (pno (pno (pno (hD (e + 4) (by omega)) (by omega)) (by omega)) (by omega)) (cK_r4 he) hq20 (fun α10 S10 P10 H10 e10 W10 => ?_)
  have V10 := H10.rawP P10 W9 ((Or.inl (Or.inl (Or.inl hi)))) (fun z => z) (fun _ => Or.inl)
  have G10 := pS.tr G9 H10 (fun _ z => (Or.inl (Or.inl (Or.inl z)))) (fun _ z _ => z) (fun _ z _ => z.elim)
  have a10 : α10 e = A := (H10 _ ((Or.inl (Or.inl (Or.inl hi))))).1.trans a7
  refine ⟨1, 16, by omega, by omega, ?_⟩
  refine init_X9 (r := e + 4) (mKe4 he) P10 ((Or.inr rfl)) (pno (pno (hC (e + 4) (by omega)) (by omega)) (by omega)) e10 W10 (fun x hx => (pno (pno (pno (pno (hD x (by omega)) (by omega)) (by omega)) (by omega)) (by omega))) (by decide) (by decide) (fun α11 S11 P11 H11 => ?_)
  have V11 := H11.rawP P11 V10 ((Or.inl (Or.inl (Or.inl (Or.inl hi))))) (by omega) (fun _ => Or.inl)
  have G11 := pS.tr G10 H11 (fun _ z => (Or.inl (Or.inl (Or.inl (Or.inl z))))) (fun _ z _ => z) (fun x z h => absurd (z ▸ h) (hD (e + 4) (by omega)))
  have a11 : α11 e = A := (H11 _ ((Or.inl (Or.inl (Or.inl (Or.inl hi)))))).1.trans a10
  have b11_q20 : α11 (e + 4) = q20 := (H11 _ ((Or.inr rfl))).1.trans e10
  refine pSetA (t := e + 4) P11 ((Or.inl (Or.inl (Or.inl (Or.inl (Or.inl hi)))))) (pno (pno (pno hn (by omega)) (by omega)) (by omega)) a11 V11 ((Or.inl (Or.inr rfl))) b11_q20 (fun S12 P12 H12 W12 => ?_)
  have G12 := pS.tr G11 H12 (fun _ z => (Or.inl (Or.inl (Or.inl (Or.inl (Or.inl z)))))) (fun _ z _ => z) (fun _ z _ => z)
  have PF := pFin P12 ((Or.inl (Or.inl (Or.inl (Or.inl (Or.inl hi)))))) W12 (by omega) (cF_en he) (cEnt he) (cn_en he)
  refine k _ _ (PF.to (fun x => ?_) (fun x => ?_)) G12
  · by_cases h : D x <;> simp only [h, true_or, false_or] <;> omega
  · intro h
    by_cases h2 : C x
    · simp only [h2, true_or]
    · simp only [h2, false_or] at h ⊢
      omega
set_option maxHeartbeats 4000000 in
theorem init_X0 {c : Nat} (hc : mK c = 0) {D C : Nat → Prop} {α : Nat → Nat} {S0 S : wPS} {A F k0 n0 : Nat} {Φ : Unit → wPS → Prop} (P : pR D C α S0 S) (hi : D c) (hn : ¬ C c) (eA : α c = A) (W : pRaw D α S c (fun _ => 0) (fun _ => none)) (hD : ∀ x, c + 1 ≤ x ∧ x ≤ c + 2 → ¬ D x) (hk : 2 ≤ k0) (hm : 46 ≤ n0) (k : ∀ α' S', pR (fun x => D x ∨ (c + 1 ≤ x ∧ x ≤ c + 2)) (fun x => C x ∨ (c + 1 ≤ x ∧ x ≤ c + 2) ∨ x = c) α' S0 S' → pS D (fun x => x = c) α S α' S' → Φ () S') : rX0_init F k0 n0 A S Φ := by
  have G0 : pS D (fun x => x = c) α S α S := pS.rf
  have hC : ∀ x, c + 1 ≤ x ∧ x ≤ c + 2 → ¬ C x := fun x h z => hD x h (P.2.2.2.2 x z).1
  have hb := mK0 hc
  unfold rX0_init
  refine ⟨by omega, by omega, fun q2 hq2 => ?_⟩
  refine pNO (t := c + 1) P (hD (c + 1) (by omega)) (cK_c1 hc) hq2 (fun α1 S1 P1 H1 e1 W1 => ?_)
  have V1 := H1.rawP P1 W (hi) (fun z => z) (fun _ => Or.inl)
  have G1 := pS.tr G0 H1 (fun _ z => z) (fun _ z _ => z) (fun _ z _ => z.elim)
  have a1 : α1 c = A := (H1 _ (hi)).1.trans eA
  refine ⟨1, 16, by omega, by omega, ?_⟩
  refine init_X9 (r := c + 1) (mKc1 hc) P1 ((Or.inr rfl)) (hC (c + 1) (by omega)) e1 W1 (fun x hx => (pno (hD x (by omega)) (by omega))) (by decide) (by decide) (fun α2 S2 P2 H2 => ?_)
  have V2 := H2.rawP P2 V1 ((Or.inl hi)) (by omega) (fun _ => Or.inl)
  have G2 := pS.tr G1 H2 (fun _ z => (Or.inl z)) (fun _ z _ => z) (fun x z h => absurd (z ▸ h) (hD (c + 1) (by omega)))
  have a2 : α2 c = A := (H2 _ ((Or.inl hi))).1.trans a1
  have b2_q2 : α2 (c + 1) = q2 := (H2 _ ((Or.inr rfl))).1.trans e1
  refine pSetA (t := c + 1) P2 ((Or.inl (Or.inl hi))) (pno hn (by omega)) a2 V2 ((Or.inl (Or.inr rfl))) b2_q2 (fun S3 P3 H3 W3 => ?_)
  have G3 := pS.tr G2 H3 (fun _ z => (Or.inl (Or.inl z))) (fun _ z _ => z) (fun _ z _ => z)
  have PF := pFin P3 ((Or.inl (Or.inl hi))) W3 (by omega) (cF_no (by omega)) (cClm hc) (cn_cl hc)
  refine k _ _ (PF.to (fun x => ?_) (fun x => ?_)) G3
  · by_cases h : D x <;> simp only [h, true_or, false_or] <;> omega
  · intro h
    by_cases h2 : C x
    · simp only [h2, true_or]
    · simp only [h2, false_or] at h ⊢
      omega
set_option maxHeartbeats 4000000 in
theorem init_X4 {D C : Nat → Prop} {α : Nat → Nat} {S0 S : wPS} {A F k0 n0 : Nat} {Φ : Unit → wPS → Prop} (P : pR D C α S0 S) (hi : D 1) (hn : ¬ C 1) (eA : α 1 = A) (W : pRaw D α S 1 (fun _ => 0) (fun _ => none)) (hD : ∀ x, (2 ≤ x ∧ x ≤ 8) ∨ (18 ≤ x ∧ x ≤ 90) → ¬ D x) (hk : 80 ≤ k0) (hm : 4099 ≤ n0) (k : ∀ α' S', pR (fun x => D x ∨ ((2 ≤ x ∧ x ≤ 8) ∨ (18 ≤ x ∧ x ≤ 90))) (fun x => C x ∨ ((2 ≤ x ∧ x ≤ 8) ∨ (18 ≤ x ∧ x ≤ 90)) ∨ x = 1) α' S0 S' → pS D (fun x => x = 1) α S α' S' → Φ () S') : rX4_init F k0 n0 A S Φ := by
  have G0 : pS D (fun x => x = 1) α S α S := pS.rf
  have hC : ∀ x, (2 ≤ x ∧ x ≤ 8) ∨ (18 ≤ x ∧ x ≤ 90) → ¬ C x := fun x h z => hD x h (P.2.2.2.2 x z).1
  unfold rX4_init
  simp only [show ((9 : Int32)).toNatClampNeg = 9 from by decide]
  refine ⟨by omega, by omega, fun q2 hq2 => ?_⟩
  refine pNO (t := 2) P (hD (2) (by omega)) (by decide) hq2 (fun α1 S1 P1 H1 e1 W1 => ?_)
  have V1 := H1.rawP P1 W (hi) (fun z => z) (fun _ => Or.inl)
  have G1 := pS.tr G0 H1 (fun _ z => z) (fun _ z _ => z) (fun _ z _ => z.elim)
  have a1 : α1 1 = A := (H1 _ (hi)).1.trans eA
  refine ⟨8, 575, by omega, by omega, ?_⟩
  refine init_X7 P1 ((Or.inr rfl)) (hC (2) (by omega)) e1 W1 (fun x hx => (pno (hD x (by omega)) (by omega))) (by decide) (by decide) (fun α2 S2 P2 H2 => ?_)
  have V2 := H2.rawP P2 V1 ((Or.inl hi)) (by omega) (fun _ => Or.inl)
  have G2 := pS.tr G1 H2 (fun _ z => (Or.inl z)) (fun _ z _ => z) (fun x z h => absurd (z ▸ h) (hD (2) (by omega)))
  have a2 : α2 1 = A := (H2 _ ((Or.inl hi))).1.trans a1
  have b2_q2 : α2 (2) = q2 := (H2 _ ((Or.inr rfl))).1.trans e1
  refine pSetA (t := 2) P2 ((Or.inl (Or.inl hi))) (pno hn (by omega)) a2 V2 ((Or.inl (Or.inr rfl))) b2_q2 (fun S3 P3 H3 W3 => ?_)
  have G3 := pS.tr G2 H3 (fun _ z => (Or.inl (Or.inl z))) (fun _ z _ => z) (fun _ z _ => z)
  refine ⟨by omega, by omega, fun q10 hq10 => ?_⟩
  refine pNO (t := 3) P3 (pno (pno (hD (3) (by omega)) (by omega)) (by omega)) (by decide) hq10 (fun α4 S4 P4 H4 e4 W4 => ?_)
  have V4 := H4.rawP P4 W3 ((Or.inl (Or.inl hi))) (fun z => z) (fun _ => Or.inl)
  have G4 := pS.tr G3 H4 (fun _ z => (Or.inl (Or.inl z))) (fun _ z _ => z) (fun _ z _ => z.elim)
  have a4 : α4 1 = A := (H4 _ ((Or.inl (Or.inl hi)))).1.trans a2
  refine ⟨8, 128, by omega, by omega, ?_⟩
  refine init_X2 P4 ((Or.inr rfl)) (pno (hC (3) (by omega)) (by omega)) e4 W4 (fun x hx => (pno (pno (pno (hD x (by omega)) (by omega)) (by omega)) (by omega))) (by decide) (by decide) (fun α5 S5 P5 H5 => ?_)
  have V5 := H5.rawP P5 V4 ((Or.inl (Or.inl (Or.inl hi)))) (by omega) (fun _ => Or.inl)
  have G5 := pS.tr G4 H5 (fun _ z => (Or.inl (Or.inl (Or.inl z)))) (fun _ z _ => z) (fun x z h => absurd (z ▸ h) (hD (3) (by omega)))
  have a5 : α5 1 = A := (H5 _ ((Or.inl (Or.inl (Or.inl hi))))).1.trans a4
  have b5_q10 : α5 (3) = q10 := (H5 _ ((Or.inr rfl))).1.trans e4
  refine pSetA (t := 3) P5 ((Or.inl (Or.inl (Or.inl (Or.inl hi))))) (pno (pno hn (by omega)) (by omega)) a5 V5 ((Or.inl (Or.inr rfl))) b5_q10 (fun S6 P6 H6 W6 => ?_)
  have G6 := pS.tr G5 H6 (fun _ z => (Or.inl (Or.inl (Or.inl (Or.inl z))))) (fun _ z _ => z) (fun _ z _ => z)
  refine ⟨by omega, by omega, fun q18 hq18 => ?_⟩
  refine pNO (t := 4) P6 (pno (pno (pno (pno (hD (4) (by omega)) (by omega)) (by omega)) (by omega)) (by omega)) (by decide) hq18 (fun α7 S7 P7 H7 e7 W7 => ?_)
  have V7 := H7.rawP P7 W6 ((Or.inl (Or.inl (Or.inl (Or.inl hi))))) (fun z => z) (fun _ => Or.inl)
  have G7 := pS.tr G6 H7 (fun _ z => (Or.inl (Or.inl (Or.inl (Or.inl z))))) (fun _ z _ => z) (fun _ z _ => z.elim)
  have a7 : α7 1 = A := (H7 _ ((Or.inl (Or.inl (Or.inl (Or.inl hi)))))).1.trans a5
  refine ⟨17, 298, by omega, by omega, ?_⟩
  refine init_X5 P7 ((Or.inr rfl)) (pno (pno (hC (4) (by omega)) (by omega)) (by omega)) e7 W7 (fun x hx => (pno (pno (pno (pno (pno (hD x (by omega)) (by omega)) (by omega)) (by omega)) (by omega)) (by omega))) (by decide) (by decide) (fun α8 S8 P8 H8 => ?_)
  have V8 := H8.rawP P8 V7 ((Or.inl (Or.inl (Or.inl (Or.inl (Or.inl hi)))))) (by omega) (fun _ => Or.inl)
  have G8 := pS.tr G7 H8 (fun _ z => (Or.inl (Or.inl (Or.inl (Or.inl (Or.inl z)))))) (fun _ z _ => z) (fun x z h => absurd (z ▸ h) (hD (4) (by omega)))
  have a8 : α8 1 = A := (H8 _ ((Or.inl (Or.inl (Or.inl (Or.inl (Or.inl hi))))))).1.trans a7
  have b8_q18 : α8 (4) = q18 := (H8 _ ((Or.inr rfl))).1.trans e7
  refine pSetA (t := 4) P8 ((Or.inl (Or.inl (Or.inl (Or.inl (Or.inl (Or.inl hi))))))) (pno (pno (pno hn (by omega)) (by omega)) (by omega)) a8 V8 ((Or.inl (Or.inr rfl))) b8_q18 (fun S9 P9 H9 W9 => ?_)
  have G9 := pS.tr G8 H9 (fun _ z => (Or.inl (Or.inl (Or.inl (Or.inl (Or.inl (Or.inl z))))))) (fun _ z _ => z) (fun _ z _ => z)
  refine ⟨by omega, by omega, fun q26 hq26 => ?_⟩
  refine pNO (t := 5) P9 (pno (pno (pno (pno (pno (pno (hD (5) (by omega)) (by omega)) (by omega)) (by omega)) (by omega)) (by omega)) (by omega)) (by decide) hq26 (fun α10 S10 P10 H10 e10 W10 => ?_)
  have V10 := H10.rawP P10 W9 ((Or.inl (Or.inl (Or.inl (Or.inl (Or.inl (Or.inl hi))))))) (fun z => z) (fun _ => Or.inl)
  have G10 := pS.tr G9 H10 (fun _ z => (Or.inl (Or.inl (Or.inl (Or.inl (Or.inl (Or.inl z))))))) (fun _ z _ => z) (fun _ z _ => z.elim)
  have a10 : α10 1 = A := (H10 _ ((Or.inl (Or.inl (Or.inl (Or.inl (Or.inl (Or.inl hi)))))))).1.trans a8
  refine ⟨2, 136, by omega, by omega, ?_⟩
  refine init_X1 P10 ((Or.inr rfl)) (pno (pno (pno (hC (5) (by omega)) (by omega)) (by omega)) (by omega)) e10 W10 (fun x hx => (pno (pno (pno (pno (pno (pno (pno (hD x (by omega)) (by omega)) (by omega)) (by omega)) (by omega)) (by omega)) (by omega)) (by omega))) (by decide) (by decide) (fun α11 S11 P11 H11 => ?_)
  have V11 := H11.rawP P11 V10 ((Or.inl (Or.inl (Or.inl (Or.inl (Or.inl (Or.inl (Or.inl hi)))))))) (by omega) (fun _ => Or.inl)
  have G11 := pS.tr G10 H11 (fun _ z => (Or.inl (Or.inl (Or.inl (Or.inl (Or.inl (Or.inl (Or.inl z)))))))) (fun _ z _ => z) (fun x z h => absurd (z ▸ h) (hD (5) (by omega)))
  have a11 : α11 1 = A := (H11 _ ((Or.inl (Or.inl (Or.inl (Or.inl (Or.inl (Or.inl (Or.inl hi))))))))).1.trans a10
  have b11_q26 : α11 (5) = q26 := (H11 _ ((Or.inr rfl))).1.trans e10
  refine pSetA (t := 5) P11 ((Or.inl (Or.inl (Or.inl (Or.inl (Or.inl (Or.inl (Or.inl (Or.inl hi))))))))) (pno (pno (pno (pno hn (by omega)) (by omega)) (by omega)) (by omega)) a11 V11 ((Or.inl (Or.inr rfl))) b11_q26 (fun S12 P12 H12 W12 => ?_)
  have G12 := pS.tr G11 H12 (fun _ z => (Or.inl (Or.inl (Or.inl (Or.inl (Or.inl (Or.inl (Or.inl (Or.inl z))))))))) (fun _ z _ => z) (fun _ z _ => z)
  refine ⟨by omega, by omega, fun q34 hq34 => ?_⟩
  refine pNO (t := 6) P12 (pno (pno (pno (pno (pno (pno (pno (pno (hD (6) (by omega)) (by omega)) (by omega)) (by omega)) (by omega)) (by omega)) (by omega)) (by omega)) (by omega)) (by decide) hq34 (fun α13 S13 P13 H13 e13 W13 => ?_)
  have V13 := H13.rawP P13 W12 ((Or.inl (Or.inl (Or.inl (Or.inl (Or.inl (Or.inl (Or.inl (Or.inl hi))))))))) (fun z => z) (fun _ => Or.inl)
  have G13 := pS.tr G12 H13 (fun _ z => (Or.inl (Or.inl (Or.inl (Or.inl (Or.inl (Or.inl (Or.inl (Or.inl z))))))))) (fun _ z _ => z) (fun _ z _ => z.elim)
  have a13 : α13 1 = A := (H13 _ ((Or.inl (Or.inl (Or.inl (Or.inl (Or.inl (Or.inl (Or.inl (Or.inl hi)))))))))).1.trans a11
  refine ⟨16, 66, by omega, by omega, ?_⟩
  refine init_X8 P13 ((Or.inr rfl)) (pno (pno (pno (pno (hC (6) (by omega)) (by omega)) (by omega)) (by omega)) (by omega)) e13 W13 (fun x hx => (pno (pno (pno (pno (pno (pno (pno (pno (pno (hD x (by omega)) (by omega)) (by omega)) (by omega)) (by omega)) (by omega)) (by omega)) (by omega)) (by omega)) (by omega))) (by decide) (by decide) (fun α14 S14 P14 H14 => ?_)
  have V14 := H14.rawP P14 V13 ((Or.inl (Or.inl (Or.inl (Or.inl (Or.inl (Or.inl (Or.inl (Or.inl (Or.inl hi)))))))))) (by omega) (fun _ => Or.inl)
  have G14 := pS.tr G13 H14 (fun _ z => (Or.inl (Or.inl (Or.inl (Or.inl (Or.inl (Or.inl (Or.inl (Or.inl (Or.inl z)))))))))) (fun _ z _ => z) (fun x z h => absurd (z ▸ h) (hD (6) (by omega)))
  have a14 : α14 1 = A := (H14 _ ((Or.inl (Or.inl (Or.inl (Or.inl (Or.inl (Or.inl (Or.inl (Or.inl (Or.inl hi))))))))))).1.trans a13
  have b14_q34 : α14 (6) = q34 := (H14 _ ((Or.inr rfl))).1.trans e13
  refine pSetA (t := 6) P14 ((Or.inl (Or.inl (Or.inl (Or.inl (Or.inl (Or.inl (Or.inl (Or.inl (Or.inl (Or.inl hi))))))))))) (pno (pno (pno (pno (pno hn (by omega)) (by omega)) (by omega)) (by omega)) (by omega)) a14 V14 ((Or.inl (Or.inr rfl))) b14_q34 (fun S15 P15 H15 W15 => ?_)
  have G15 := pS.tr G14 H15 (fun _ z => (Or.inl (Or.inl (Or.inl (Or.inl (Or.inl (Or.inl (Or.inl (Or.inl (Or.inl (Or.inl z))))))))))) (fun _ z _ => z) (fun _ z _ => z)
  refine ⟨by omega, by omega, fun q42 hq42 => ?_⟩
  refine pNO (t := 7) P15 (pno (pno (pno (pno (pno (pno (pno (pno (pno (pno (hD (7) (by omega)) (by omega)) (by omega)) (by omega)) (by omega)) (by omega)) (by omega)) (by omega)) (by omega)) (by omega)) (by omega)) (by decide) hq42 (fun α16 S16 P16 H16 e16 W16 => ?_)
  have V16 := H16.rawP P16 W15 ((Or.inl (Or.inl (Or.inl (Or.inl (Or.inl (Or.inl (Or.inl (Or.inl (Or.inl (Or.inl hi))))))))))) (fun z => z) (fun _ => Or.inl)
  have G16 := pS.tr G15 H16 (fun _ z => (Or.inl (Or.inl (Or.inl (Or.inl (Or.inl (Or.inl (Or.inl (Or.inl (Or.inl (Or.inl z))))))))))) (fun _ z _ => z) (fun _ z _ => z.elim)
  have a16 : α16 1 = A := (H16 _ ((Or.inl (Or.inl (Or.inl (Or.inl (Or.inl (Or.inl (Or.inl (Or.inl (Or.inl (Or.inl hi)))))))))))).1.trans a14
  refine ⟨14, 2565, by omega, by omega, ?_⟩
  refine init_X10 P16 ((Or.inr rfl)) (pno (pno (pno (pno (pno (hC (7) (by omega)) (by omega)) (by omega)) (by omega)) (by omega)) (by omega)) e16 W16 (fun x hx => (pno (pno (pno (pno (pno (pno (pno (pno (pno (pno (pno (hD x (by omega)) (by omega)) (by omega)) (by omega)) (by omega)) (by omega)) (by omega)) (by omega)) (by omega)) (by omega)) (by omega)) (by omega))) (by decide) (by decide) (fun α17 S17 P17 H17 => ?_)
  have V17 := H17.rawP P17 V16 ((Or.inl (Or.inl (Or.inl (Or.inl (Or.inl (Or.inl (Or.inl (Or.inl (Or.inl (Or.inl (Or.inl hi)))))))))))) (by omega) (fun _ => Or.inl)
  have G17 := pS.tr G16 H17 (fun _ z => (Or.inl (Or.inl (Or.inl (Or.inl (Or.inl (Or.inl (Or.inl (Or.inl (Or.inl (Or.inl (Or.inl z)))))))))))) (fun _ z _ => z) (fun x z h => absurd (z ▸ h) (hD (7) (by omega)))
  have a17 : α17 1 = A := (H17 _ ((Or.inl (Or.inl (Or.inl (Or.inl (Or.inl (Or.inl (Or.inl (Or.inl (Or.inl (Or.inl (Or.inl hi))))))))))))).1.trans a16
  have b17_q42 : α17 (7) = q42 := (H17 _ ((Or.inr rfl))).1.trans e16
  refine pSetA (t := 7) P17 ((Or.inl (Or.inl (Or.inl (Or.inl (Or.inl (Or.inl (Or.inl (Or.inl (Or.inl (Or.inl (Or.inl (Or.inl hi))))))))))))) (pno (pno (pno (pno (pno (pno hn (by omega)) (by omega)) (by omega)) (by omega)) (by omega)) (by omega)) a17 V17 ((Or.inl (Or.inr rfl))) b17_q42 (fun S18 P18 H18 W18 => ?_)
  have G18 := pS.tr G17 H18 (fun _ z => (Or.inl (Or.inl (Or.inl (Or.inl (Or.inl (Or.inl (Or.inl (Or.inl (Or.inl (Or.inl (Or.inl (Or.inl z))))))))))))) (fun _ z _ => z) (fun _ z _ => z)
  refine ⟨by omega, by omega, fun q50 hq50 => ?_⟩
  refine pNO (t := 8) P18 (pno (pno (pno (pno (pno (pno (pno (pno (pno (pno (pno (pno (hD (8) (by omega)) (by omega)) (by omega)) (by omega)) (by omega)) (by omega)) (by omega)) (by omega)) (by omega)) (by omega)) (by omega)) (by omega)) (by omega)) (by decide) hq50 (fun α19 S19 P19 H19 e19 W19 => ?_)
  have V19 := H19.rawP P19 W18 ((Or.inl (Or.inl (Or.inl (Or.inl (Or.inl (Or.inl (Or.inl (Or.inl (Or.inl (Or.inl (Or.inl (Or.inl hi))))))))))))) (fun z => z) (fun _ => Or.inl)
  have G19 := pS.tr G18 H19 (fun _ z => (Or.inl (Or.inl (Or.inl (Or.inl (Or.inl (Or.inl (Or.inl (Or.inl (Or.inl (Or.inl (Or.inl (Or.inl z))))))))))))) (fun _ z _ => z) (fun _ z _ => z.elim)
  have a19 : α19 1 = A := (H19 _ ((Or.inl (Or.inl (Or.inl (Or.inl (Or.inl (Or.inl (Or.inl (Or.inl (Or.inl (Or.inl (Or.inl (Or.inl hi)))))))))))))).1.trans a17
  refine ⟨7, 112, by omega, by omega, ?_⟩
  refine init_X6 P19 ((Or.inr rfl)) (pno (pno (pno (pno (pno (pno (hC (8) (by omega)) (by omega)) (by omega)) (by omega)) (by omega)) (by omega)) (by omega)) e19 W19 (fun x hx => (pno (pno (pno (pno (pno (pno (pno (pno (pno (pno (pno (pno (pno (hD x (by omega)) (by omega)) (by omega)) (by omega)) (by omega)) (by omega)) (by omega)) (by omega)) (by omega)) (by omega)) (by omega)) (by omega)) (by omega)) (by omega))) (by decide) (by decide) (fun α20 S20 P20 H20 => ?_)
  have V20 := H20.rawP P20 V19 ((Or.inl (Or.inl (Or.inl (Or.inl (Or.inl (Or.inl (Or.inl (Or.inl (Or.inl (Or.inl (Or.inl (Or.inl (Or.inl hi)))))))))))))) (by omega) (fun _ => Or.inl)
  have G20 := pS.tr G19 H20 (fun _ z => (Or.inl (Or.inl (Or.inl (Or.inl (Or.inl (Or.inl (Or.inl (Or.inl (Or.inl (Or.inl (Or.inl (Or.inl (Or.inl z)))))))))))))) (fun _ z _ => z) (fun x z h => absurd (z ▸ h) (hD (8) (by omega)))
  have a20 : α20 1 = A := (H20 _ ((Or.inl (Or.inl (Or.inl (Or.inl (Or.inl (Or.inl (Or.inl (Or.inl (Or.inl (Or.inl (Or.inl (Or.inl (Or.inl hi))))))))))))))).1.trans a19
  have b20_q50 : α20 (8) = q50 := (H20 _ ((Or.inr rfl))).1.trans e19
  refine pSetA (t := 8) P20 ((Or.inl (Or.inl (Or.inl (Or.inl (Or.inl (Or.inl (Or.inl (Or.inl (Or.inl (Or.inl (Or.inl (Or.inl (Or.inl (Or.inl hi))))))))))))))) (pno (pno (pno (pno (pno (pno (pno hn (by omega)) (by omega)) (by omega)) (by omega)) (by omega)) (by omega)) (by omega)) a20 V20 ((Or.inl (Or.inr rfl))) b20_q50 (fun S21 P21 H21 W21 => ?_)
  have G21 := pS.tr G20 H21 (fun _ z => (Or.inl (Or.inl (Or.inl (Or.inl (Or.inl (Or.inl (Or.inl (Or.inl (Or.inl (Or.inl (Or.inl (Or.inl (Or.inl (Or.inl z))))))))))))))) (fun _ z _ => z) (fun _ z _ => z)
  refine ⟨by decide, by omega, by omega, by decide, fun q58 hq58 => ?_⟩
  refine pNI (t := 18) P21 (pno (pno (pno (pno (pno (pno (pno (pno (pno (pno (pno (pno (pno (pno (hD (18) (by omega)) (by omega)) (by omega)) (by omega)) (by omega)) (by omega)) (by omega)) (by omega)) (by omega)) (by omega)) (by omega)) (by omega)) (by omega)) (by omega)) (by omega)) (by decide) ⟨by decide, by decide⟩ (by decide) (by decide) (fun j => c_none 18 j (by decide)) (fun _ => rfl) hq58 (fun α22 S22 P22 H22 e22 => ?_)
  have V22 := H22.rawP P22 W21 ((Or.inl (Or.inl (Or.inl (Or.inl (Or.inl (Or.inl (Or.inl (Or.inl (Or.inl (Or.inl (Or.inl (Or.inl (Or.inl (Or.inl hi))))))))))))))) (fun z => z) (fun _ => Or.inl)
  have G22 := pS.tr G21 H22 (fun _ z => (Or.inl (Or.inl (Or.inl (Or.inl (Or.inl (Or.inl (Or.inl (Or.inl (Or.inl (Or.inl (Or.inl (Or.inl (Or.inl (Or.inl z))))))))))))))) (fun _ z _ => z) (fun _ z _ => z.elim)
  have a22 : α22 1 = A := (H22 _ ((Or.inl (Or.inl (Or.inl (Or.inl (Or.inl (Or.inl (Or.inl (Or.inl (Or.inl (Or.inl (Or.inl (Or.inl (Or.inl (Or.inl hi)))))))))))))))).1.trans a20
  refine pSetA (t := 18) P22 ((Or.inl (Or.inl (Or.inl (Or.inl (Or.inl (Or.inl (Or.inl (Or.inl (Or.inl (Or.inl (Or.inl (Or.inl (Or.inl (Or.inl (Or.inl hi)))))))))))))))) (pno (pno (pno (pno (pno (pno (pno (pno hn (by omega)) (by omega)) (by omega)) (by omega)) (by omega)) (by omega)) (by omega)) (by omega)) a22 V22 ((Or.inr rfl)) e22 (fun S23 P23 H23 W23 => ?_)
  have G23 := pS.tr G22 H23 (fun _ z => (Or.inl (Or.inl (Or.inl (Or.inl (Or.inl (Or.inl (Or.inl (Or.inl (Or.inl (Or.inl (Or.inl (Or.inl (Or.inl (Or.inl (Or.inl z)))))))))))))))) (fun _ z _ => z) (fun _ z _ => z)
  have PF := pFin P23 ((Or.inl (Or.inl (Or.inl (Or.inl (Or.inl (Or.inl (Or.inl (Or.inl (Or.inl (Or.inl (Or.inl (Or.inl (Or.inl (Or.inl (Or.inl hi)))))))))))))))) W23 (by decide) (cF_no (by decide)) (cSt (by decide)) (fun k => cRA_99 (Or.inr (by decide)))
  refine k _ _ (PF.to (fun x => ?_) (fun x => ?_)) G23
  · by_cases h : D x <;> simp only [h, true_or, false_or] <;> omega
  · intro h
    by_cases h2 : C x
    · simp only [h2, true_or]
    · simp only [h2, false_or] at h ⊢
      omega
end
