/-! A NEW BOOK: the steps of the constructors. -/
section
theorem pno {a b : Prop} (h : ¬ a) (g : ¬ b) : ¬ (a ∨ b) := fun z => z.elim h g
theorem cRA_no {t : Nat} (h : ∀ k, mRA t k = none) (h2 : t ≠ 17) (k : Nat) : cRA t k = none := by
  unfold cRA
  rw [if_neg h2]
  exact h k
section
variable {D C : Nat → Prop} {α : Nat → Nat} {S0 S : wPS} {g : wPS → Prop}
/-- a new row of numbers -/
theorem pNI {t kd n : Nat} (P : pR D C α S0 S) (ht : ¬ D t) (hk : cK t = kd) (hk2 : kd ≤ 13 ∧ 12 ≤ kd) (hl : cLen t = n) (hm : ¬ mK t < 12) (hr : ∀ j, cRef t j = none) (hr2 : ∀ k, cRA t k = none) {q : Nat} (hq : ¬ q ∈ S.L) (k : ∀ α' S', pR (fun x => D x ∨ x = t) (fun x => C x ∨ x = t) α' S0 S' → pS D (fun _ => False) α S α' S' → α' t = q → g S') : wkLt (wnI S q kd n (fun _ => 0)) g := by
  have e1 : (fun x => if x = t then q else α x) t = q := if_pos rfl
  have e3 : ∀ x, ¬ x = t → (fun x => if x = t then q else α x) x = α x := fun x hx => if_neg hx
  generalize (fun x => if x = t then q else α x) = α' at e1 e3
  obtain ⟨P1, H1⟩ := pAdd (N := fun x => x = t) (α' := α') (S' := wnI S q kd n (fun _ => 0)) P (fun x hx => hx ▸ ht) e3 (fun x hx => by subst hx; rw [e1]; exact hq) (fun x y hx hy _ => hx.trans hy.symm) (fun a => ⟨fun h => by
      rcases List.mem_append.mp h with h | h
      · exact Or.inl h
      · exact Or.inr ⟨t, rfl, by rw [e1]; exact List.mem_singleton.mp h⟩, fun h => by
      rcases h with h | ⟨x, hx, rfl⟩
      · exact List.mem_append_left _ h
      · subst hx
        rw [e1]
        exact List.mem_append_right _ List.mem_cons_self⟩) (fun x hx => by
      subst hx
      rw [e1, hk]
      exact mUp_eq _ _ _) (mSame.nI hq)
  refine k _ _ (pDone (N := fun x => x = t) P1 fun x hx => ?_) H1 e1
  subst hx
  refine ⟨Or.inr rfl, ⟨fun z => absurd z hm, fun _ => ⟨?_, fun _ => ?_, fun z => ?_⟩, fun j t ht => ?_, fun k t ht => ?_⟩, fun j t ht => ?_, fun k t ht => ?_⟩
  · rw [e1, hl]
    exact mUp_eq _ _ _
  · rw [e1]
    exact mUp_eq _ _ _
  · rw [hk] at z
    omega
  · rw [hr j] at ht
    cases ht
  · rw [hr2 k] at ht
    cases ht
  · rw [hr j] at ht
    cases ht
  · rw [hr2 k] at ht
    cases ht
theorem pNJ {t n : Nat} (P : pR D C α S0 S) (ht : ¬ D t) (hk : cK t = 14) (hl : cLen t = n) (hm : ¬ mK t < 12) (hr : ∀ j, cRef t j = none) (hr2 : ∀ k, cRA t k = none) {q : Nat} (hq : ¬ q ∈ S.L) (k : ∀ α' S', pR (fun x => D x ∨ x = t) (fun x => C x ∨ x = t) α' S0 S' → pS D (fun _ => False) α S α' S' → α' t = q → g S') : wkLt (wnJ S q n (fun _ => 0)) g := by
  have e1 : (fun x => if x = t then q else α x) t = q := if_pos rfl
  have e3 : ∀ x, ¬ x = t → (fun x => if x = t then q else α x) x = α x := fun x hx => if_neg hx
  generalize (fun x => if x = t then q else α x) = α' at e1 e3
  obtain ⟨P1, H1⟩ := pAdd (N := fun x => x = t) (α' := α') (S' := wnJ S q n (fun _ => 0)) P (fun x hx => hx ▸ ht) e3 (fun x hx => by subst hx; rw [e1]; exact hq) (fun x y hx hy _ => hx.trans hy.symm) (fun a => ⟨fun h => by
      rcases List.mem_append.mp h with h | h
      · exact Or.inl h
      · exact Or.inr ⟨t, rfl, by rw [e1]; exact List.mem_singleton.mp h⟩, fun h => by
      rcases h with h | ⟨x, hx, rfl⟩
      · exact List.mem_append_left _ h
      · subst hx
        rw [e1]
        exact List.mem_append_right _ List.mem_cons_self⟩) (fun x hx => by
      subst hx
      rw [e1, hk]
      exact mUp_eq _ _ _) (mSame.nJ hq)
  refine k _ _ (pDone (N := fun x => x = t) P1 fun x hx => ?_) H1 e1
  subst hx
  refine ⟨Or.inr rfl, ⟨fun z => absurd z hm, fun _ => ⟨?_, fun z => ?_, fun _ => ?_⟩, fun j t ht => ?_, fun k t ht => ?_⟩, fun j t ht => ?_, fun k t ht => ?_⟩
  · rw [e1, hl]
    exact mUp_eq _ _ _
  · rw [hk] at z
    omega
  · rw [e1]
    exact mUp_eq _ _ _
  · rw [hr j] at ht
    cases ht
  · rw [hr2 k] at ht
    cases ht
  · rw [hr j] at ht
    cases ht
  · rw [hr2 k] at ht
    cases ht
/-- a new object, raw -/
theorem pNO {t kd : Nat} (P : pR D C α S0 S) (ht : ¬ D t) (hk : cK t = kd) {q : Nat} (hq : ¬ q ∈ S.L) (k : ∀ α' S', pR (fun x => D x ∨ x = t) C α' S0 S' → pS D (fun _ => False) α S α' S' → α' t = q → pRaw (fun x => D x ∨ x = t) α' S' t (fun _ => 0) (fun _ => none) → g S') : wkLt (wnO S q kd) g := by
  have e1 : (fun x => if x = t then q else α x) t = q := if_pos rfl
  have e3 : ∀ x, ¬ x = t → (fun x => if x = t then q else α x) x = α x := fun x hx => if_neg hx
  generalize (fun x => if x = t then q else α x) = α' at e1 e3
  obtain ⟨P1, H1⟩ := pAdd (N := fun x => x = t) (α' := α') (S' := wnO S q kd) P (fun x hx => hx ▸ ht) e3 (fun x hx => by subst hx; rw [e1]; exact hq) (fun x y hx hy _ => hx.trans hy.symm) (fun a => ⟨fun h => by
      rcases List.mem_append.mp h with h | h
      · exact Or.inl h
      · exact Or.inr ⟨t, rfl, by rw [e1]; exact List.mem_singleton.mp h⟩, fun h => by
      rcases h with h | ⟨x, hx, rfl⟩
      · exact List.mem_append_left _ h
      · subst hx
        rw [e1]
        exact List.mem_append_right _ List.mem_cons_self⟩) (fun x hx => by
      subst hx
      rw [e1, hk]
      exact mUp_eq _ _ _) (mSame.nO hq)
  refine k _ _ P1 H1 e1 ⟨?_, ?_, fun j => ?_, fun j t ht => by cases ht⟩
  · rw [e1]
    exact mUp_eq _ _ _
  · rw [e1]
    exact mUp_eq _ _ _
  · rw [e1]
    exact congrFun (mUp_eq _ _ _) j
/-- a new row of references, raw -/
theorem pNA {t kd n : Nat} (P : pR D C α S0 S) (ht : ¬ D t) (hk : cK t = kd) {q : Nat} (hq : ¬ q ∈ S.L) (k : ∀ α' S', pR (fun x => D x ∨ x = t) C α' S0 S' → pS D (fun _ => False) α S α' S' → α' t = q → pRow (fun x => D x ∨ x = t) α' S' t n (fun _ => none) → g S') : wkLt (wnA S q kd n (fun _ => none)) g := by
  have e1 : (fun x => if x = t then q else α x) t = q := if_pos rfl
  have e3 : ∀ x, ¬ x = t → (fun x => if x = t then q else α x) x = α x := fun x hx => if_neg hx
  generalize (fun x => if x = t then q else α x) = α' at e1 e3
  obtain ⟨P1, H1⟩ := pAdd (N := fun x => x = t) (α' := α') (S' := wnA S q kd n (fun _ => none)) P (fun x hx => hx ▸ ht) e3 (fun x hx => by subst hx; rw [e1]; exact hq) (fun x y hx hy _ => hx.trans hy.symm) (fun a => ⟨fun h => by
      rcases List.mem_append.mp h with h | h
      · exact Or.inl h
      · exact Or.inr ⟨t, rfl, by rw [e1]; exact List.mem_singleton.mp h⟩, fun h => by
      rcases h with h | ⟨x, hx, rfl⟩
      · exact List.mem_append_left _ h
      · subst hx
        rw [e1]
        exact List.mem_append_right _ List.mem_cons_self⟩) (fun x hx => by
      subst hx
      rw [e1, hk]
      exact mUp_eq _ _ _) (mSame.nA hq)
  refine k _ _ P1 H1 e1 ⟨?_, fun j => ?_, fun j t ht => by cases ht⟩
  · rw [e1]
    exact mUp_eq _ _ _
  · rw [e1]
    exact congrFun (mUp_eq _ _ _) j
/-- a reference of a raw object -/
theorem pSetA {i t A B j : Nat} {f : Nat → Int32} {r : Nat → Option Nat} (P : pR D C α S0 S) (hi : D i) (hn : ¬ C i) (eA : α i = A) (W : pRaw D α S i f r) (ht : D t) (eB : α t = B) (k : ∀ S', pR D C α S0 S' → pS D (fun x => x = i) α S α S' → pRaw D α S' i f (va_up r j (some t)) → g S') : wkLt (wuA S A j (some B)) g := by
  subst eA eB
  obtain ⟨P1, H1⟩ := pUpd (S' := wuA S (α i) j (some (α t))) P hi hn rfl rfl (fun a ha => ⟨rfl, rfl, mUp_ne _ _ ha, rfl, rfl, rfl, rfl⟩)
  refine k _ P1 H1 ⟨W.1, W.2.1, fun j' => ?_, fun j' t' h => ?_⟩
  · show va_up S.fA (α i) _ (α i) j' = _
    rw [mUp_eq]
    by_cases e : j' = j
    · subst e
      rw [mUp_eq, mUp_eq]
      rfl
    · rw [mUp_ne _ _ e, mUp_ne _ _ e]
      exact W.2.2.1 j'
  · by_cases e : j' = j
    · subst e
      rw [mUp_eq] at h
      cases h
      exact ht
    · rw [mUp_ne _ _ e] at h
      exact W.2.2.2 j' t' h
/-- a number of a raw object -/
theorem pSetF {i A j : Nat} {v : Int32} {f : Nat → Int32} {r : Nat → Option Nat} (P : pR D C α S0 S) (hi : D i) (hn : ¬ C i) (eA : α i = A) (W : pRaw D α S i f r) (k : ∀ S', pR D C α S0 S' → pS D (fun x => x = i) α S α S' → pRaw D α S' i (va_up f j v) r → g S') : wkLt (wuF S A j v) g := by
  subst eA
  obtain ⟨P1, H1⟩ := pUpd (S' := wuF S (α i) j v) P hi hn rfl rfl (fun a ha => ⟨mUp_ne _ _ ha, rfl, rfl, rfl, rfl, rfl, rfl⟩)
  refine k _ P1 H1 ⟨?_, W.2.1, W.2.2.1, W.2.2.2⟩
  show va_up S.fI (α i) _ (α i) = _
  rw [mUp_eq, W.1]
/-- a place of a raw row of references -/
theorem pSetR {i t A B n : Nat} {x : Int32} {r : Nat → Option Nat} (P : pR D C α S0 S) (hi : D i) (hn : ¬ C i) (eA : α i = A) (W : pRow D α S i n r) (ht : D t) (eB : α t = B) (k : ∀ S', pR D C α S0 S' → pS D (fun x => x = i) α S α S' → pRow D α S' i n (va_up r x.toNatClampNeg (some t)) → g S') : wkLt (wuRef S A x B) g := by
  subst eA eB
  obtain ⟨P1, H1⟩ := pUpd (S' := wuRef S (α i) x (α t)) P hi hn rfl rfl (fun a ha => ⟨rfl, rfl, rfl, rfl, rfl, rfl, mUp_ne _ _ ha⟩)
  refine k _ P1 H1 ⟨W.1, fun j' => ?_, fun j' t' h => ?_⟩
  · show va_up S.rA (α i) _ (α i) j' = _
    rw [mUp_eq]
    by_cases e : j' = x.toNatClampNeg
    · rw [e, mUp_eq, mUp_eq]
      rfl
    · rw [mUp_ne _ _ e, mUp_ne _ _ e]
      exact W.2.1 j'
  · by_cases e : j' = x.toNatClampNeg
    · rw [e, mUp_eq] at h
      cases h
      exact ht
    · rw [mUp_ne _ _ e] at h
      exact W.2.2 j' t' h
/-- a raw object is done -/
theorem pFin {i : Nat} {f : Nat → Int32} {r : Nat → Option Nat} (P : pR D C α S0 S) (hi : D i) (W : pRaw D α S i f r) (hm : mK i < 12) (hf : f = cF i) (hr : ∀ j t, cRef i j = some t → r j = some t) (hr2 : ∀ k, cRA i k = none) : pR D (fun x => C x ∨ x = i) α S0 S := pDone P fun x hx => by
  subst hx
  refine ⟨hi, ⟨fun _ => ⟨W.1.trans hf, W.2.1⟩, fun z => ?_, fun j t ht => ?_, fun k t ht => ?_⟩, fun j t ht => W.2.2.2 j t (hr j t ht), fun k t ht => ?_⟩
  · unfold cK at z
    rw [if_neg (by omega)] at z
    omega
  · rw [W.2.2.1 j, hr j t ht]
    rfl
  · rw [hr2 k] at ht
    cases ht
  · rw [hr2 k] at ht
    cases ht
/-- a raw row of references is done -/
theorem pFinR {i n : Nat} {r : Nat → Option Nat} (P : pR D C α S0 S) (hi : D i) (W : pRow D α S i n r) (hm : ¬ mK i < 12) (hk : 14 < cK i) (hl : cLen i = n) (hr : ∀ j, cRef i j = none) (hr2 : ∀ k t, cRA i k = some t → r k = some t) : pR D (fun x => C x ∨ x = i) α S0 S := pDone P fun x hx => by
  subst hx
  refine ⟨hi, ⟨fun z => absurd z hm, fun _ => ⟨W.1.trans hl.symm, fun z => by omega, fun z => by omega⟩, fun j t ht => ?_, fun k t ht => ?_⟩, fun j t ht => ?_, fun k t ht => W.2.2 k t (hr2 k t ht)⟩
  · rw [hr j] at ht
    cases ht
  · rw [W.2.1 k, hr2 k t ht]
    rfl
  · rw [hr j] at ht
    cases ht
/-- rows of rows -/
theorem pNT {t ko ki z m : Nat} (P : pR D C α S0 S) (ht : ∀ x, t ≤ x → x ≤ t + z → ¬ D x) (hk : cK t = ko) (hki : ∀ x, t < x → x ≤ t + z → cK x = ki) (hko : 14 < ko) (hki2 : ki = 13 ∨ ki = 14) (hlo : cLen t = z) (hli : ∀ x, t < x → x ≤ t + z → cLen x = m) (hm : ∀ x, t ≤ x → x ≤ t + z → ¬ mK x < 12) (hr : ∀ x, t ≤ x → x ≤ t + z → ∀ j, cRef x j = none) (hr2 : ∀ x, t < x → x ≤ t + z → ∀ k, cRA x k = none) (hr3 : ∀ k u, cRA t k = some u → k < z ∧ u = t + 1 + k) {q : Nat} {r : Nat → Nat} (h1 : ∀ i j : Nat, i < z → j < z → r i = r j → i = j) (h2 : ∀ i : Nat, i < z → ¬ r i ∈ S.L) (h3 : ¬ q ∈ S.L ++ (List.range z).map r) (k : ∀ α' S', pR (fun x => D x ∨ (t ≤ x ∧ x ≤ t + z)) (fun x => C x ∨ (t ≤ x ∧ x ≤ t + z)) α' S0 S' → pS D (fun _ => False) α S α' S' → α' t = q → g S') : wkLt (wnT S q ko ki z m ((List.range z).map r) r) g := by
  have hqL : ¬ q ∈ S.L := fun y => h3 (List.mem_append_left _ y)
  have hqR : ∀ i, i < z → r i ≠ q := fun i hi y => h3 (List.mem_append_right _ (List.mem_map.mpr ⟨i, List.mem_range.mpr hi, y⟩))
  have e1 : (fun x => if x = t then q else if t < x ∧ x ≤ t + z then r (x - t - 1) else α x) t = q := if_pos rfl
  have e2 : ∀ x, t < x → x ≤ t + z → (fun x => if x = t then q else if t < x ∧ x ≤ t + z then r (x - t - 1) else α x) x = r (x - t - 1) := fun x a b => by
    show (if x = t then q else _) = _
    rw [if_neg (by omega), if_pos ⟨a, b⟩]
  generalize hα : (fun x => if x = t then q else if t < x ∧ x ≤ t + z then r (x - t - 1) else α x) = α' at e1 e2
  have e3 : ∀ x, ¬ (t ≤ x ∧ x ≤ t + z) → α' x = α x := fun x hx => by
    rw [← hα]
    show (if x = t then q else _) = _
    rw [if_neg (by omega), if_neg (by omega)]
  have mem : ∀ a, a ∈ (List.range z).map r ↔ ∃ x, t < x ∧ x ≤ t + z ∧ a = r (x - t - 1) := fun a => by
    rw [List.mem_map]
    exact ⟨fun ⟨i, hi, e⟩ => ⟨t + 1 + i, by omega, by have := List.mem_range.mp hi; omega, by rw [show t + 1 + i - t - 1 = i by omega]; exact e.symm⟩, fun ⟨x, a1, a2, e⟩ => ⟨x - t - 1, List.mem_range.mpr (by omega), e.symm⟩⟩
  have nR : ∀ a, a ∈ S.L → ¬ a ∈ (List.range z).map r := fun a ha y => by
    obtain ⟨x, a1, a2, e⟩ := (mem a).mp y
    exact h2 (x - t - 1) (by omega) (e ▸ ha)
  have same : mSame S (wnT S q ko ki z m ((List.range z).map r) r) := fun a ha => by
    have ne : a ≠ q := fun y => hqL (y ▸ ha)
    have nr := nR a ha
    have v : ∀ {β : Type} (f : Nat → β) (w : β), vr_up f ((List.range z).map r) w a = f a := fun f w => by
      unfold vr_up
      rw [if_neg nr]
    exact ⟨List.mem_cons_of_mem _ (List.mem_append_left _ ha), (mUp_ne _ _ ne).trans (v _ _), rfl, rfl, rfl, (mUp_ne _ _ ne).trans (v _ _), v _ _, v _ _, mUp_ne _ _ ne⟩
  have vr : ∀ {β : Type} (f : Nat → β) (w : β) (x : Nat), t < x → x ≤ t + z → vr_up f ((List.range z).map r) w (r (x - t - 1)) = w := fun f w x a b => by
    unfold vr_up
    rw [if_pos ((mem _).mpr ⟨x, a, b, rfl⟩)]
  have rq : ∀ x, t < x → x ≤ t + z → r (x - t - 1) ≠ q := fun x a b => hqR _ (by omega)
  obtain ⟨P1, H1⟩ := pAdd (N := fun x => t ≤ x ∧ x ≤ t + z) (α' := α') (S' := wnT S q ko ki z m ((List.range z).map r) r) P (fun x hx => ht x hx.1 hx.2) e3 (fun x hx => by
      by_cases c : x = t
      · subst c
        rw [e1]
        exact hqL
      · rw [e2 x (by omega) hx.2]
        exact h2 _ (by omega)) (fun x y hx hy e => by
      by_cases c : x = t
      · by_cases c' : y = t
        · omega
        · subst c
          rw [e1, e2 y (by omega) hy.2] at e
          exact absurd e.symm (rq y (by omega) hy.2)
      · by_cases c' : y = t
        · subst c'
          rw [e1, e2 x (by omega) hx.2] at e
          exact absurd e (rq x (by omega) hx.2)
        · rw [e2 x (by omega) hx.2, e2 y (by omega) hy.2] at e
          have := h1 _ _ (by omega) (by omega) e
          omega) (fun a => ⟨fun h => by
      rcases List.mem_cons.mp h with h | h
      · exact Or.inr ⟨t, ⟨Nat.le_refl _, by omega⟩, by rw [e1]; exact h⟩
      · rcases List.mem_append.mp h with h | h
        · exact Or.inl h
        · obtain ⟨x, a1, a2, e⟩ := (mem a).mp h
          exact Or.inr ⟨x, ⟨by omega, a2⟩, by rw [e2 x a1 a2]; exact e⟩, fun h => by
      rcases h with h | ⟨x, hx, rfl⟩
      · exact List.mem_cons_of_mem _ (List.mem_append_left _ h)
      · by_cases c : x = t
        · subst c
          rw [e1]
          exact List.mem_cons_self
        · rw [e2 x (by omega) hx.2]
          exact List.mem_cons_of_mem _ (List.mem_append_right _ ((mem _).mpr ⟨x, by omega, hx.2, rfl⟩))⟩) (fun x hx => by
      by_cases c : x = t
      · subst c
        rw [e1, hk]
        exact mUp_eq _ _ _
      · rw [e2 x (by omega) hx.2, hki x (by omega) hx.2]
        exact (mUp_ne _ _ (rq x (by omega) hx.2)).trans (vr _ _ x (by omega) hx.2)) same
  refine k _ _ (pDone (N := fun x => t ≤ x ∧ x ≤ t + z) P1 fun x hx => ?_) H1 e1
  by_cases c : x = t
  · subst c
    refine ⟨Or.inr hx, ⟨fun y => absurd y (hm _ hx.1 hx.2), fun _ => ⟨?_, fun y => by omega, fun y => by omega⟩, fun j u hu => ?_, fun k u hu => ?_⟩, fun j u hu => ?_, fun k u hu => ?_⟩
    · rw [e1, hlo]
      exact mUp_eq _ _ _
    · rw [hr _ hx.1 hx.2 j] at hu
      cases hu
    · obtain ⟨a1, a2⟩ := hr3 k u hu
      rw [e1, a2, e2 _ (by omega) (by omega)]
      show va_up S.rA q _ q k = _
      rw [mUp_eq, if_pos a1, show x + 1 + k - x - 1 = k by omega]
    · rw [hr _ hx.1 hx.2 j] at hu
      cases hu
    · obtain ⟨a1, a2⟩ := hr3 k u hu
      exact Or.inr (by omega)
  · have a := rq x (by omega) hx.2
    refine ⟨Or.inr hx, ⟨fun y => absurd y (hm _ hx.1 hx.2), fun _ => ⟨?_, fun y => ?_, fun y => ?_⟩, fun j u hu => ?_, fun k u hu => ?_⟩, fun j u hu => ?_, fun k u hu => ?_⟩
    · rw [e2 x (by omega) hx.2, hli x (by omega) hx.2]
      exact (mUp_ne _ _ a).trans (vr _ _ x (by omega) hx.2)
    · rw [e2 x (by omega) hx.2]
      exact vr _ _ x (by omega) hx.2
    · rw [e2 x (by omega) hx.2]
      exact vr _ _ x (by omega) hx.2
    · rw [hr _ hx.1 hx.2 j] at hu
      cases hu
    · rw [hr2 _ (by omega) hx.2 k] at hu
      cases hu
    · rw [hr _ hx.1 hx.2 j] at hu
      cases hu
    · rw [hr2 _ (by omega) hx.2 k] at hu
      cases hu
end
end
