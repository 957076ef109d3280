/-! THE PURE PART, drawings: what the tree says. -/
section
theorem edW_t {f : Nat → Nat} {x : Nat} : ∀ es : List (Nat × Nat), (edW f es).testBit x = true ↔ ∃ p, p ∈ es ∧ (x = 7 * f p.1 + f p.2 ∨ x = 7 * f p.2 + f p.1)
  | [] => by
    rw [edW, Nat.zero_testBit]
    exact ⟨fun h => absurd h (by decide), fun ⟨p, h, _⟩ => absurd h List.not_mem_nil⟩
  | (u, v) :: es => by
    have ih := edW_t (f := f) (x := x) es
    rw [edW, Nat.testBit_or, Nat.testBit_or, Bool.or_eq_true, Bool.or_eq_true, nb_pow, nb_pow, decide_eq_true_iff, decide_eq_true_iff, ih]
    constructor
    · rintro ((⟨p, a, b⟩ | h) | h)
      · exact ⟨p, List.mem_cons_of_mem _ a, b⟩
      · exact ⟨(u, v), List.mem_cons_self, Or.inl h.symm⟩
      · exact ⟨(u, v), List.mem_cons_self, Or.inr h.symm⟩
    · rintro ⟨p, a, b⟩
      rcases List.mem_cons.mp a with e | e
      · rw [e] at b
        exact b.elim (fun z => Or.inl (Or.inr z.symm)) (fun z => Or.inr z.symm)
      · exact Or.inl (Or.inl ⟨p, e, b⟩)
theorem bsE_drn (b : Nat) : drnE (nbW (edW (fun u => u) (bsE b))) ∧ ∀ p, p ∈ bsE b → p.1 < 7 ∧ p.2 < 7 ∧ p.1 ≠ p.2 := by
  unfold bsE
  by_cases h0 : b = 0
  · rw [if_pos h0]
    exact ⟨by rw [show edW (fun u => u) bsE0 = 174800179753588 by decide +kernel]; exact bsD0, by decide⟩
  · rw [if_neg h0]
    by_cases h1 : b = 1
    · rw [if_pos h1]
      exact ⟨by rw [show edW (fun u => u) bsE1 = 245151744062036 by decide +kernel]; exact bsD1, by decide⟩
    · rw [if_neg h1]
      by_cases h2 : b = 2
      · rw [if_pos h2]
        exact ⟨by rw [show edW (fun u => u) bsE2 = 31692409994966 by decide +kernel]; exact bsD2, by decide⟩
      · rw [if_neg h2]
        by_cases h3 : b = 3
        · rw [if_pos h3]
          exact ⟨by rw [show edW (fun u => u) bsE3 = 102249592173298 by decide +kernel]; exact bsD3, by decide⟩
        · rw [if_neg h3]
          exact ⟨by rw [show edW (fun u => u) bsE4 = 227558485062366 by decide +kernel]; exact bsD4, by decide⟩
def nlW (W : Nat) : Prop := ∀ u, u < 7 → (nbW W u).testBit u = false
theorem mx_drn {e : Nat} (h : mxB e = true) : drnE (nbW (e % 562949953421312)) ∧ nlW (e % 562949953421312) := by
  unfold mxB at h
  rw [Bool.and_eq_true] at h
  obtain ⟨h1, h2⟩ := h
  have h1 := Nat.eq_of_beq_eq_true h1
  have q := fun u hu => allN_t h2 u hu
  obtain ⟨f, hf⟩ : ∃ f, f = fpN (e >>> 49 % 2097152) := ⟨_, rfl⟩
  obtain ⟨g, hg⟩ : ∃ g, g = fpN (e >>> 70 % 2097152) := ⟨_, rfl⟩
  rw [← hf] at h1
  rw [← hf, ← hg] at q
  simp only [Bool.and_eq_true] at q
  have q1 : ∀ u, u < 7 → f u < 7 ∧ g (f u) = u := fun u hu => ⟨Nat.le_of_ble_eq_true (q u hu).1.1.1, Nat.eq_of_beq_eq_true (q u hu).1.2⟩
  have q2 : ∀ u, u < 7 → g u < 7 ∧ f (g u) = u := fun u hu => ⟨Nat.le_of_ble_eq_true (q u hu).1.1.2, Nat.eq_of_beq_eq_true (q u hu).2⟩
  obtain ⟨d, r⟩ := bsE_drn (e >>> 91)
  refine ⟨?_, fun u hu => ?_⟩
  case refine_2 =>
    cases z : (nbW (e % 562949953421312) u).testBit u with
    | false => rfl
    | true =>
      rw [nbW_t hu, ← h1, edW_t] at z
      obtain ⟨p, p1, p2⟩ := z
      obtain ⟨r1, r2, r3⟩ := r p p1
      obtain ⟨f1, f2⟩ := q1 _ r1
      obtain ⟨f3, f4⟩ := q1 _ r2
      exact absurd (show p.1 = p.2 by rw [← f2, ← f4, show f p.1 = f p.2 by omega]) r3
  refine drn_lab q1 q2 (fun x => ?_) d
  rw [nbW_g, nbW_g, ← h1, edW_t, edW_t]
  have nm : x < 49 → nmN g x = 7 * g (x / 7) + g (x % 7) := fun hx => if_pos hx
  constructor
  · rintro ⟨hx, p, p1, p2⟩
    obtain ⟨r1, r2, _⟩ := r p p1
    obtain ⟨f1, f2⟩ := q1 _ r1
    obtain ⟨f3, f4⟩ := q1 _ r2
    obtain ⟨a1, _⟩ := q2 (x / 7) (by omega)
    obtain ⟨a2, _⟩ := q2 (x % 7) (by omega)
    refine ⟨hx, by rw [nm hx]; omega, p, p1, ?_⟩
    rw [nm hx]
    rcases p2 with e | e
    · left
      rw [show x / 7 = f p.1 by omega, show x % 7 = f p.2 by omega, f2, f4]
    · right
      rw [show x / 7 = f p.2 by omega, show x % 7 = f p.1 by omega, f2, f4]
  · rintro ⟨hx, _, p, p1, p2⟩
    rw [nm hx] at p2
    obtain ⟨r1, r2, _⟩ := r p p1
    obtain ⟨a1, b1⟩ := q2 (x / 7) (by omega)
    obtain ⟨a2, b2⟩ := q2 (x % 7) (by omega)
    refine ⟨hx, p, p1, ?_⟩
    rcases p2 with e | e
    · left
      rw [← show g (x / 7) = p.1 by omega, ← show g (x % 7) = p.2 by omega, b1, b2]
      omega
    · right
      rw [← show g (x / 7) = p.2 by omega, ← show g (x % 7) = p.1 by omega, b1, b2]
      omega
theorem drn_0 : drnE (nbW 0) := by
  have z : ∀ x, ¬ gngB (nbW 0) x := fun x g => by
    have := (nbW_g.mp g).2
    rw [Nat.zero_testBit] at this
    exact absurd this (by decide)
  refine ⟨fun u v hu hv => by rw [nbW_t hv, nbW_t hu, Nat.zero_testBit, Nat.zero_testBit], fun x => x, ⟨⟨fun x hx => hx, fun x _ => rfl, fun x y e => e⟩, fun x => rfl, fun x _ => rfl, fun x y gx => absurd gx (z x)⟩, gn_0 (fun x => alE_n (z x)) (fun x => rfl)⟩
theorem mxc_drn {c : Nat} (h : mxC c = true) {i : Nat} (hi : i < 64) : drnE (nbW (c >>> (96 * i) % 562949953421312)) ∧ nlW (c >>> (96 * i) % 562949953421312) := by
  have := mx_drn (allN_t h i hi)
  rw [show (79228162514264337593543950336 : Nat) = 562949953421312 * 140737488355328 by decide, Nat.mod_mul_right_mod] at this
  exact this
theorem getD_all {l : List Nat} {p : Nat → Bool} (h : l.all p = true) (j : Nat) : p (l.getD j 0) = true ∨ l.getD j 0 = 0 := by
  rw [List.getD_eq_getElem?_getD]
  by_cases c : j < l.length
  · rw [List.getElem?_eq_getElem c]
    exact Or.inl (List.all_eq_true.mp h _ (List.getElem_mem c))
  · rw [List.getElem?_eq_none (by omega)]
    exact Or.inr rfl
theorem mxG_ok (j : Nat) : mxC (mxG j) = true ∨ mxG j = 0 := by
  unfold mxG
  cases Nat.blt j 22 with
  | true => exact getD_all mxT0 j
  | false =>
    cases Nat.blt j 44 with
    | true => exact getD_all mxT1 (j - 22)
    | false =>
      cases Nat.blt j 66 with
      | true => exact getD_all mxT2 (j - 44)
      | false => exact getD_all mxT3 (j - 66)
theorem mxW_drn (j : Nat) : drnE (nbW (mxW j)) ∧ nlW (mxW j) := by
  unfold mxW
  rcases mxG_ok (j / 64) with h | h
  · exact mxc_drn h (Nat.mod_lt _ (by decide))
  · rw [h, Nat.zero_shiftRight, Nat.zero_mod]
    exact ⟨drn_0, fun u hu => by rw [nbW_t hu, Nat.zero_testBit]⟩
theorem crW_ok {i : Nat} (h : i < 1141) : crB (crW i) = true ∧ crW i < 2 ^ 49 := by
  refine ⟨?_, Nat.mod_lt _ (by decide)⟩
  unfold crW
  have l : crL.length = 18 := rfl
  have c : i / 64 < crL.length := by omega
  have e : crC (crL.getD (i / 64) 0) = true := by
    rw [List.getD_eq_getElem?_getD, List.getElem?_eq_getElem c]
    exact List.all_eq_true.mp crT _ (List.getElem_mem c)
  exact allN_t e (i % 64) (Nat.mod_lt _ (by decide))
def tpN (x : Nat) : Nat := 7 * (x % 7) + x / 7
def kurQ (G : Nat → Bool) : Prop := 24 ≤ cnt G 49 ∨ (∃ C, (crB C = true ∧ C < 2 ^ 49) ∧ ∀ x, x < 49 → C.testBit x = true → G x = true) ∨ ∃ M, (drnE (nbW M) ∧ nlW M) ∧ ∀ x, G x = true → M.testBit x = true
def trP (G : Nat → Bool) (s : Nat × Nat × Nat) : Prop := (∀ x, s.1.testBit x = true → G x = true) ∧ (∀ x, s.2.1.testBit x = true → G x = false) ∧ s.2.2 ≤ cnt (fun x => s.1.testBit x) 49
theorem pm_t {e x : Nat} : (pmN e).testBit x = true ↔ x = e ∨ x = tpN e := by
  unfold pmN tpN
  rw [Nat.testBit_or, Bool.or_eq_true, nb_pow, nb_pow, decide_eq_true_iff, decide_eq_true_iff]
  exact ⟨fun h => h.elim (fun z => Or.inl z.symm) (fun z => Or.inr z.symm), fun h => h.elim (fun z => Or.inl z.symm) (fun z => Or.inr z.symm)⟩
theorem trE_ok {G : Nat → Bool} (h1 : ∀ x, x < 49 → G (tpN x) = G x) (h2 : ∀ x, G x = true → x < 49 ∧ x / 7 ≠ x % 7) {e : Nat} {st st' : List (Nat × Nat × Nat)} (ht : trE e st = some st') (hn : ∀ s, s ∈ st' → trP G s → kurQ G) : ∀ s, s ∈ st → trP G s → kurQ G := by
  cases st with
  | nil => intro s hs; exact absurd hs List.not_mem_nil
  | cons a r =>
    obtain ⟨T, F, c⟩ := a
    rw [trE] at ht
    have rest : ∀ {r'}, r' = st' → (∀ s, s ∈ r → s ∈ r') → ∀ s, s ∈ r → trP G s → kurQ G := fun {r'} e hr s hs hp => hn s (by rw [← e]; exact hr s hs) hp
    cases c1 : Nat.blt e 49 with
    | true =>
      rw [c1] at ht
      have e49 : e < 49 := Nat.le_of_ble_eq_true c1
      cases c2 : (Nat.beq (T &&& pmN e) 0 && !Nat.beq (e / 7) (e % 7)) with
      | false =>
        rw [c2] at ht
        exact absurd ht (by intro h; cases h)
      | true =>
        rw [c2] at ht
        have ht : (T ||| pmN e, F, c + 2) :: (T, F ||| pmN e, c) :: r = st' := Option.some.inj ht
        rw [Bool.and_eq_true, Bool.not_eq_true'] at c2
        obtain ⟨c2, c3⟩ := c2
        have c2 := Nat.eq_of_beq_eq_true c2
        have c3 : e / 7 ≠ e % 7 := fun w => by rw [w, Nat.beq_refl] at c3; exact absurd c3 (by decide)
        intro s hs hp
        rcases List.mem_cons.mp hs with es | es
        · rw [es] at hp
          obtain ⟨p1, p2, p3⟩ := hp
          have p1 : ∀ x, T.testBit x = true → G x = true := p1
          have p2 : ∀ x, F.testBit x = true → G x = false := p2
          have p3 : c ≤ cnt (fun x => T.testBit x) 49 := p3
          have nt : ∀ x, (pmN e).testBit x = true → T.testBit x = false := fun x hx => by
            cases tx : T.testBit x with
            | false => rfl
            | true =>
              have : (T &&& pmN e).testBit x = true := by rw [Nat.testBit_and, tx, hx]; rfl
              rw [c2, Nat.zero_testBit] at this
              exact absurd this (by decide)
          have tp : tpN e ≠ e ∧ tpN e < 49 := by unfold tpN; omega
          cases g : G e with
          | true =>
            refine hn (T ||| pmN e, F, c + 2) (by rw [← ht]; exact List.mem_cons_self) ⟨fun x hx => ?_, p2, ?_⟩
            · have hx : (T ||| pmN e).testBit x = true := hx
              rw [Nat.testBit_or, Bool.or_eq_true] at hx
              rcases hx with z | z
              · exact p1 x z
              · rcases pm_t.mp z with w | w
                · rw [w]; exact g
                · rw [w, h1 e e49]; exact g
            · show c + 2 ≤ cnt (fun x => (T ||| pmN e).testBit x) 49
              have b1 : (fun x => (T ||| pmN e).testBit x) e = true := by
                show (T ||| pmN e).testBit e = true
                rw [Nat.testBit_or, pm_t.mpr (Or.inl rfl), Bool.or_true]
              have d1 : cnt (fun x => (T ||| pmN e).testBit x) 49 = cnt (cdel (fun x => (T ||| pmN e).testBit x) e) 49 + 1 := cnt_del b1 49 e49
              have d2 := cnt_del (X := cdel (fun x => (T ||| pmN e).testBit x) e) (i := tpN e) (cdel_eq.mpr ⟨by
                show (T ||| pmN e).testBit (tpN e) = true
                rw [Nat.testBit_or, pm_t.mpr (Or.inr rfl), Bool.or_true], tp.1⟩) 49 tp.2
              have le := cnt_le (X := fun x => T.testBit x) (Y := cdel (cdel (fun x => (T ||| pmN e).testBit x) e) (tpN e)) 49 (fun i _ hi => by
                have hi : T.testBit i = true := hi
                refine cdel_eq.mpr ⟨cdel_eq.mpr ⟨?_, fun w => ?_⟩, fun w => ?_⟩
                · show (T ||| pmN e).testBit i = true
                  rw [Nat.testBit_or, hi, Bool.true_or]
                · rw [nt i (pm_t.mpr (Or.inl w))] at hi
                  exact absurd hi (by decide)
                · rw [nt i (pm_t.mpr (Or.inr w))] at hi
                  exact absurd hi (by decide))
              omega
          | false =>
            refine hn (T, F ||| pmN e, c) (by rw [← ht]; exact List.mem_cons_of_mem _ List.mem_cons_self) ⟨p1, fun x hx => ?_, p3⟩
            have hx : (F ||| pmN e).testBit x = true := hx
            rw [Nat.testBit_or, Bool.or_eq_true] at hx
            rcases hx with z | z
            · exact p2 x z
            · rcases pm_t.mp z with w | w
              · rw [w]; exact g
              · rw [w, h1 e e49]; exact g
        · exact rest ht (fun s hs => List.mem_cons_of_mem _ (List.mem_cons_of_mem _ hs)) s es hp
    | false =>
      rw [c1] at ht
      have fin : (trP G (T, F, c) → kurQ G) → r = st' → ∀ s, s ∈ (T, F, c) :: r → trP G s → kurQ G := fun q er s hs hp => by
        rcases List.mem_cons.mp hs with es | es
        · rw [es] at hp
          exact q hp
        · exact rest er (fun s hs => hs) s es hp
      cases c2 : Nat.beq e 49 with
      | true =>
        rw [c2] at ht
        cases c3 : Nat.ble 24 c with
        | false =>
          rw [c3] at ht
          exact absurd ht (by intro h; cases h)
        | true =>
          rw [c3] at ht
          refine fin (fun hp => Or.inl ?_) (Option.some.inj ht)
          have c3 := Nat.le_of_ble_eq_true c3
          have p3 : c ≤ cnt (fun x => T.testBit x) 49 := hp.2.2
          have := cnt_le (X := fun x => T.testBit x) (Y := G) 49 (fun i _ hi => hp.1 i hi)
          omega
      | false =>
        rw [c2] at ht
        cases c3 : Nat.blt e 1191 with
        | true =>
          rw [c3] at ht
          cases c4 : Nat.beq (crW (e - 50) &&& T) (crW (e - 50)) with
          | false =>
            rw [c4] at ht
            exact absurd ht (by intro h; cases h)
          | true =>
            rw [c4] at ht
            have e2 : e < 1191 := Nat.le_of_ble_eq_true c3
            refine fin (fun hp => Or.inr (Or.inl ⟨crW (e - 50), crW_ok (by omega), fun x _ hx => ?_⟩)) (Option.some.inj ht)
            have c4 := Nat.eq_of_beq_eq_true c4
            rw [← c4, Nat.testBit_and, Bool.and_eq_true] at hx
            exact hp.1 x hx.2
        | false =>
          rw [c3] at ht
          cases c4 : Nat.beq (F ||| mxW (e - 1191)) 280371153272574 with
          | false =>
            rw [c4] at ht
            exact absurd ht (by intro h; cases h)
          | true =>
            rw [c4] at ht
            refine fin (fun hp => Or.inr (Or.inr ⟨mxW (e - 1191), mxW_drn _, fun x gx => ?_⟩)) (Option.some.inj ht)
            have c4 := Nat.eq_of_beq_eq_true c4
            obtain ⟨x49, xd⟩ := h2 x gx
            have full : ∀ x, x < 49 → x / 7 ≠ x % 7 → (280371153272574 : Nat).testBit x = true := by decide
            have := full x x49 xd
            rw [← c4, Nat.testBit_or, Bool.or_eq_true] at this
            refine this.resolve_left (fun w => ?_)
            have := hp.2.1 x w
            rw [gx] at this
            exact absurd this (by decide)
theorem trC_ok {G : Nat → Bool} (h1 : ∀ x, x < 49 → G (tpN x) = G x) (h2 : ∀ x, G x = true → x < 49 ∧ x / 7 ≠ x % 7) : ∀ k n st st', trC k n st = some st' → (∀ s, s ∈ st' → trP G s → kurQ G) → ∀ s, s ∈ st → trP G s → kurQ G
  | 0, n, st, st', h, hn => by
    rw [trC] at h
    rw [Option.some.inj h]
    exact hn
  | k + 1, n, st, st', h, hn => by
    rw [trC] at h
    cases e : trE (n % 8192) st with
    | none => rw [e] at h; cases h
    | some s2 =>
      rw [e] at h
      exact trE_ok h1 h2 e (trC_ok h1 h2 k _ _ _ h hn)
theorem trL_ok {G : Nat → Bool} (h1 : ∀ x, x < 49 → G (tpN x) = G x) (h2 : ∀ x, G x = true → x < 49 ∧ x / 7 ≠ x % 7) : ∀ l st st', trL l st = some st' → (∀ s, s ∈ st' → trP G s → kurQ G) → ∀ s, s ∈ st → trP G s → kurQ G
  | [], st, st', h, hn => by
    rw [trL] at h
    rw [Option.some.inj h]
    exact hn
  | n :: ns, st, st', h, hn => by
    rw [trL] at h
    cases e : trC 64 n st with
    | none => rw [e] at h; cases h
    | some s2 =>
      rw [e] at h
      exact trC_ok h1 h2 _ _ _ _ e (trL_ok h1 h2 ns _ _ h hn)
theorem kur {G : Nat → Bool} (h1 : ∀ x, x < 49 → G (tpN x) = G x) (h2 : ∀ x, G x = true → x < 49 ∧ x / 7 ≠ x % 7) : kurQ G := by
  have h := trT
  unfold trZ at h
  cases e : trL trD [(0, 0, 0)] with
  | none => rw [e] at h; cases h
  | some st =>
    rw [e] at h
    refine trL_ok h1 h2 _ _ _ e (fun s hs hp => ?_) (0, 0, 0) List.mem_cons_self ⟨fun x hx => ?_, fun x hx => ?_, Nat.zero_le _⟩
    · dsimp only at h
      revert h
      generalize e2 : trC 37 0x19b7cdb66d73699b3cd964af25b92cc59e2171540310010014936013004e21709a03100100c40120132490014002495006006804400ac5a62cf165884 st = o
      intro h
      match o, e2, h with
      | none, _, h => cases h
      | some [], e2, _ => exact trC_ok h1 h2 _ _ _ _ e2 (fun s hs => absurd hs List.not_mem_nil) s hs hp
      | some (_ :: _), _, h => cases h
    · have hx : (0 : Nat).testBit x = true := hx
      rw [Nat.zero_testBit] at hx
      exact absurd hx (by decide)
    · have hx : (0 : Nat).testBit x = true := hx
      rw [Nat.zero_testBit] at hx
      exact absurd hx (by decide)
end
