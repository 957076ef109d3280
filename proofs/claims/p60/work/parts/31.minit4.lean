/-! A NEW BOOK: the book's own constructor. -/
section
/-- one more entry of a row of entries -/
theorem iterE {D C : Nat → Prop} {α : Nat → Nat} {S0 S : wPS} {F k0 n0 c s R B N i : Nat} {x : Int32} {r : Nat → Option Nat} {g : Nat → Nat → wPS → Prop} {b2 : Nat} (P : pR D C α S0 S) (hR : D R) (hRn : ¬ C R) (eb : α R = b2) (Y : pRow D α S R N r) (he : mK (B + 8 * i) = 3) (hnew : ∀ y, B + 8 * i ≤ y ∧ y ≤ B + 8 * i + 5 → ¬ D y) (hx : x.toNatClampNeg = i) (hx0 : ¬ x < 0) (hi : i < N) (hk : c + 1 + 5 ≤ k0) (hn : s + 17 + 172 ≤ n0) (k : ∀ α' S', pR (fun y => D y ∨ (B + 8 * i ≤ y ∧ y ≤ B + 8 * i + 5)) (fun y => C y ∨ (B + 8 * i ≤ y ∧ y ≤ B + 8 * i + 5)) α' S0 S' → pS D (fun y => y = R) α S α' S' → pRow (fun y => D y ∨ (B + 8 * i ≤ y ∧ y ≤ B + 8 * i + 5)) α' S' R N (va_up r i (some (B + 8 * i))) → g 5 172 S') : c + 1 ≤ k0 ∧ s + 17 ≤ n0 ∧ ∀ q4 : Nat, ¬ q4 ∈ S.L → wkLt (wnO S q4 3) fun S5 => ∃ k8 n9 : Nat, (c + 1) + k8 ≤ k0 ∧ (s + 17) + n9 ≤ n0 ∧ rX3_init F k8 n9 q4 S5 fun _ S7 => ¬ (x < 0 ∨ S7.len b2 ≤ (x).toNatClampNeg) ∧ wkLt (wuRef S7 b2 x q4) fun S11 => g k8 n9 S11 := by
  refine ⟨by omega, by omega, fun q hq => ?_⟩
  have hb := mK3 he
  have hRe : ∀ j, j ≤ 5 → R ≠ B + 8 * i + j := fun j hj z => hnew R (by omega) hR
  refine pNO (t := B + 8 * i) P (hnew _ (by omega)) (by unfold cK; rw [he, if_neg (by decide)]) hq (fun α1 S1 P1 H1 e1 W1 => ?_)
  have Y1 := H1.rowP P1 Y hR (fun z => z) (fun _ => Or.inl)
  have b1 := (H1 R hR).1.trans eb
  refine ⟨5, 172, by omega, by omega, ?_⟩
  have hC : ∀ y, B + 8 * i ≤ y ∧ y ≤ B + 8 * i + 5 → ¬ C y := fun y h z => hnew y h (P.2.2.2.2 y z).1
  refine init_X3 he P1 (Or.inr rfl) (hC _ (by omega)) e1 W1 (fun y hy => pno (hnew y (by omega)) (by omega)) (Nat.le_refl _) (Nat.le_refl _) (fun α2 S2 P2 H2 => ?_)
  have Y2 := H2.rowP P2 Y1 (Or.inl hR) (fun z => hRe 0 (by omega) (by omega)) (fun _ => Or.inl)
  have b2' := (H2 R (Or.inl hR)).1.trans b1
  have e2 := (H2 (B + 8 * i) (Or.inr rfl)).1.trans e1
  have hl : S2.len b2 = N := by
    rw [← b2']
    exact Y2.1
  refine ⟨fun z => z.elim hx0 (fun z => by rw [hl, hx] at z; omega), ?_⟩
  refine pSetR (t := B + 8 * i) P2 (Or.inl (Or.inl hR)) (pno hRn (fun z => by
    rcases z with z | z
    · exact hRe (R - (B + 8 * i)) (by omega) (by omega)
    · exact hRe 0 (by omega) (by omega))) b2' Y2 (Or.inl (Or.inr rfl)) e2 (fun S3 P3 H3 Y3 => ?_)
  rw [hx] at Y3
  have iff : ∀ y, ((D y ∨ y = B + 8 * i) ∨ (B + 8 * i + 1 ≤ y ∧ y ≤ B + 8 * i + 5)) ↔ (D y ∨ (B + 8 * i ≤ y ∧ y ≤ B + 8 * i + 5)) := fun y => by
    by_cases h : D y <;> simp only [h, true_or, false_or] <;> omega
  refine k _ _ (P3.to iff (fun y h => ?_)) ?_ ⟨Y3.1, Y3.2.1, fun j t ht => (iff t).mp (Y3.2.2 j t ht)⟩
  · by_cases h2 : C y
    · simp only [h2, true_or]
    · simp only [h2, false_or] at h ⊢
      omega
  · refine pS.tr (pS.tr (pS.tr pS.rf H1 (fun _ z => z) (fun _ z _ => z) (fun _ z _ => z.elim)) H2 (fun _ => Or.inl) (fun _ z _ => z) (fun y z h => absurd h (hnew y (by omega)))) H3 (fun _ z => Or.inl (Or.inl z)) (fun _ z _ => z) (fun _ z _ => z)
theorem iterC {D C : Nat → Prop} {α : Nat → Nat} {S0 S : wPS} {F k0 n0 c s R B N i : Nat} {x : Int32} {r : Nat → Option Nat} {g : Nat → Nat → wPS → Prop} {b2 : Nat} (P : pR D C α S0 S) (hR : D R) (hRn : ¬ C R) (eb : α R = b2) (Y : pRow D α S R N r) (he : mK (B + 4 * i) = 0) (hnew : ∀ y, B + 4 * i ≤ y ∧ y ≤ B + 4 * i + 2 → ¬ D y) (hx : x.toNatClampNeg = i) (hx0 : ¬ x < 0) (hi : i < N) (hk : c + 1 + 2 ≤ k0) (hn : s + 4 + 46 ≤ n0) (k : ∀ α' S', pR (fun y => D y ∨ (B + 4 * i ≤ y ∧ y ≤ B + 4 * i + 2)) (fun y => C y ∨ (B + 4 * i ≤ y ∧ y ≤ B + 4 * i + 2)) α' S0 S' → pS D (fun y => y = R) α S α' S' → pRow (fun y => D y ∨ (B + 4 * i ≤ y ∧ y ≤ B + 4 * i + 2)) α' S' R N (va_up r i (some (B + 4 * i))) → g 2 46 S') : c + 1 ≤ k0 ∧ s + 4 ≤ n0 ∧ ∀ q4 : Nat, ¬ q4 ∈ S.L → wkLt (wnO S q4 0) fun S5 => ∃ k8 n9 : Nat, (c + 1) + k8 ≤ k0 ∧ (s + 4) + n9 ≤ n0 ∧ rX0_init F k8 n9 q4 S5 fun _ S7 => ¬ (x < 0 ∨ S7.len b2 ≤ (x).toNatClampNeg) ∧ wkLt (wuRef S7 b2 x q4) fun S11 => g k8 n9 S11 := by
  refine ⟨by omega, by omega, fun q hq => ?_⟩
  have hb := mK0 he
  have hRe : ∀ j, j ≤ 2 → R ≠ B + 4 * i + j := fun j hj z => hnew R (by omega) hR
  refine pNO (t := B + 4 * i) P (hnew _ (by omega)) (by unfold cK; rw [he, if_neg (by decide)]) hq (fun α1 S1 P1 H1 e1 W1 => ?_)
  have Y1 := H1.rowP P1 Y hR (fun z => z) (fun _ => Or.inl)
  have b1 := (H1 R hR).1.trans eb
  refine ⟨2, 46, by omega, by omega, ?_⟩
  have hC : ∀ y, B + 4 * i ≤ y ∧ y ≤ B + 4 * i + 2 → ¬ C y := fun y h z => hnew y h (P.2.2.2.2 y z).1
  refine init_X0 he P1 (Or.inr rfl) (hC _ (by omega)) e1 W1 (fun y hy => pno (hnew y (by omega)) (by omega)) (Nat.le_refl _) (Nat.le_refl _) (fun α2 S2 P2 H2 => ?_)
  have Y2 := H2.rowP P2 Y1 (Or.inl hR) (fun z => hRe 0 (by omega) (by omega)) (fun _ => Or.inl)
  have b2' := (H2 R (Or.inl hR)).1.trans b1
  have e2 := (H2 (B + 4 * i) (Or.inr rfl)).1.trans e1
  have hl : S2.len b2 = N := by
    rw [← b2']
    exact Y2.1
  refine ⟨fun z => z.elim hx0 (fun z => by rw [hl, hx] at z; omega), ?_⟩
  refine pSetR (t := B + 4 * i) P2 (Or.inl (Or.inl hR)) (pno hRn (fun z => by
    rcases z with z | z
    · exact hRe (R - (B + 4 * i)) (by omega) (by omega)
    · exact hRe 0 (by omega) (by omega))) b2' Y2 (Or.inl (Or.inr rfl)) e2 (fun S3 P3 H3 Y3 => ?_)
  rw [hx] at Y3
  have iff : ∀ y, ((D y ∨ y = B + 4 * i) ∨ (B + 4 * i + 1 ≤ y ∧ y ≤ B + 4 * i + 2)) ↔ (D y ∨ (B + 4 * i ≤ y ∧ y ≤ B + 4 * i + 2)) := fun y => by
    by_cases h : D y <;> simp only [h, true_or, false_or] <;> omega
  refine k _ _ (P3.to iff (fun y h => ?_)) ?_ ⟨Y3.1, Y3.2.1, fun j t ht => (iff t).mp (Y3.2.2 j t ht)⟩
  · by_cases h2 : C y
    · simp only [h2, true_or]
    · simp only [h2, false_or] at h ⊢
      omega
  · refine pS.tr (pS.tr (pS.tr pS.rf H1 (fun _ z => z) (fun _ z _ => z) (fun _ z _ => z.elim)) H2 (fun _ => Or.inl) (fun _ z _ => z) (fun y z h => absurd h (hnew y (by omega)))) H3 (fun _ z => Or.inl (Or.inl z)) (fun _ z _ => z) (fun _ z _ => z)
/-- the loops' state: which numbers stand, what the three rows hold -/
def pLp (D C : Nat → Prop) (α : Nat → Nat) (S0 S : wPS) (A : Nat) (f : Nat → Int32) (r0 : Nat → Option Nat) (r1 r2 r3 : Nat → Option Nat) : Prop := pR D C α S0 S ∧ α 0 = A ∧ D 0 ∧ D 10 ∧ D 13 ∧ D 17 ∧ ¬ C 0 ∧ ¬ C 10 ∧ ¬ C 13 ∧ ¬ C 17 ∧ pRaw D α S 0 f r0 ∧ pRow D α S 10 12 r1 ∧ pRow D α S 13 24 r2 ∧ pRow D α S 17 16 r3
def pEn (lo hi y : Nat) : Prop := lo ≤ y ∧ y < hi ∧ y % 8 ≤ 5
def pCl (lo hi y : Nat) : Prop := lo ≤ y ∧ y < hi ∧ y % 4 ≤ 2
theorem mK_e {e : Nat} (h : 256 ≤ e ∧ e < 552 ∧ e % 8 = 0) : mK e = 3 := mKe (j := 0) h (by decide)
theorem mK_c {c : Nat} (h : 1024 ≤ c ∧ c < 1088 ∧ c % 4 = 0) : mK c = 0 := by
  unfold mK
  rw [if_neg (by omega), if_neg (by omega), if_neg (by omega), if_pos (by omega), if_pos h.2.2]
theorem pOf {i : Nat} (h : i < 100) : (Int32.ofNat i).toNatClampNeg = i ∧ ¬ Int32.ofNat i < 0 ∧ Int32.ofNat i + (1 : Int32) = Int32.ofNat (i + 1) ∧ (((12 : Int32) ≤ Int32.ofNat i) ↔ 12 ≤ i) ∧ (((24 : Int32) ≤ Int32.ofNat i) ↔ 24 ≤ i) ∧ (((16 : Int32) ≤ Int32.ofNat i) ↔ 16 ≤ i) := by
  have : ∀ i, i < 100 → (Int32.ofNat i).toNatClampNeg = i ∧ ¬ Int32.ofNat i < 0 ∧ Int32.ofNat i + (1 : Int32) = Int32.ofNat (i + 1) ∧ (((12 : Int32) ≤ Int32.ofNat i) ↔ 12 ≤ i) ∧ (((24 : Int32) ≤ Int32.ofNat i) ↔ 24 ≤ i) ∧ (((16 : Int32) ≤ Int32.ofNat i) ↔ 16 ≤ i) := by decide +kernel
  exact this i h
theorem pLp_b {D C : Nat → Prop} {α : Nat → Nat} {S0 S : wPS} {A : Nat} {f : Nat → Int32} {r0 r1 r2 r3 : Nat → Option Nat} (L : pLp D C α S0 S A f r0 r1 r2 r3) {j t : Nat} (h : r0 j = some t) : S.fA A j = some (α t) := by
  obtain ⟨_, e, _, _, _, _, _, _, _, _, W, _⟩ := L
  rw [← e, W.2.2.1 j, h]
  rfl
set_option maxHeartbeats 4000000 in
theorem loop0 {F k0 n0 : Nat} {S0 : wPS} {A : Nat} {f : Nat → Int32} {r0 : Nat → Option Nat} {Φ : Unit → wPS → Prop} (h0 : r0 1 = some 10) : ∀ (m i k' : Nat), i + m = 12 → m + 44 ≤ k' → ∀ (D C : Nat → Prop) (α : Nat → Nat) (S : wPS) (r1 r2 r3 : Nat → Option Nat) (c s : Nat), pLp D C α S0 S A f r0 r1 r2 r3 → (∀ j, r1 j = if j < i then some (256 + 8 * j) else none) → (∀ y, 256 + 8 * i ≤ y → y < 352 → ¬ D y) → c + 6 * m + 192 ≤ k0 → s + 189 * m + 5336 ≤ n0 → (∀ (D' C' : Nat → Prop) (α' : Nat → Nat) (S' : wPS) (r1' : Nat → Option Nat) (c' s' k2 : Nat), pLp D' C' α' S0 S' A f r0 r1' r2 r3 → (∀ j, r1' j = if j < 12 then some (256 + 8 * j) else none) → (∀ y, D' y ↔ D y ∨ pEn (256 + 8 * i) 352 y) → (∀ y, C y ∨ pEn (256 + 8 * i) 352 y → C' y) → c' + 192 ≤ k0 → s' + 5336 ≤ n0 → 43 ≤ k2 → rX11_init_go F k0 n0 k2 1 c' s' A (0 : Int32) S' Φ) → rX11_init_go F k0 n0 k' 0 c s A (Int32.ofNat i) S Φ := by
  intro m
  induction m with
  | zero =>
    intro i k' hi hk' D C α S r1 r2 r3 c s L hr hD hk hn k
    cases k' with
    | zero => omega
    | succ k' =>
      have hi2 : i = 12 := by omega
      subst hi2
      rw [rX11_init_go, if_pos rfl]
      unfold rX11_init_b0
      rw [if_pos ((pOf (i := 12) (by decide)).2.2.2.1.mpr (by decide))]
      exact k D C α S r1 c s k' L hr (fun y => ⟨Or.inl, fun z => z.elim id (fun z => by unfold pEn at z; omega)⟩) (fun y z => z.elim id (fun z => by unfold pEn at z; omega)) (by omega) (by omega) (by omega)
  | succ m ih =>
    intro i k' hi hk' D C α S r1 r2 r3 c s L hr hD hk hn k
    cases k' with
    | zero => omega
    | succ k' =>
      rw [rX11_init_go, if_pos rfl]
      unfold rX11_init_b0
      obtain ⟨p1, p2, p3, p4, p5, p6⟩ := pOf (i := i) (by omega)
      rw [if_neg (fun z => by have := p4.mp z; omega)]
      have LL := L
      obtain ⟨P, eA, d0, d1, d2, d3, n0', n1, n2, n3, W, Y1, Y2, Y3⟩ := L
      refine ⟨α 10, pLp_b LL h0, ⟨(P.2.1 10 d1).1, (P.2.1 10 d1).2.2⟩, ?_⟩
      refine iterE (B := 256) (i := i) P d1 n1 rfl Y1 (mK_e (by omega)) (fun y hy => hD y (by omega) (by omega)) p1 p2 (by omega) (by omega) (by omega) (fun α1 S1 P1 H1 Z1 => ?_)
      refine wkLt_at p3.symm ?_
      have W1 := H1.rawP P1 W d0 (by omega) (fun _ => Or.inl)
      have Y2' := H1.rowP P1 Y2 d2 (by omega) (fun _ => Or.inl)
      have Y3' := H1.rowP P1 Y3 d3 (by omega) (fun _ => Or.inl)
      refine ih (i + 1) k' (by omega) (by omega) _ _ α1 S1 _ _ _ _ _ ⟨P1, (H1 0 d0).1.trans eA, Or.inl d0, Or.inl d1, Or.inl d2, Or.inl d3, pno n0' (by omega), pno n1 (by omega), pno n2 (by omega), pno n3 (by omega), W1, Z1, Y2', Y3'⟩ (fun j => ?_) (fun y a b => pno (hD y (by omega) b) (by omega)) (by omega) (by omega) (fun D2 C2 α2 S2 r' c2 s2 k2 L2 hr2 hD2 hC2 hk2 hn2 hz => ?_)
      · by_cases e : j = i
        · subst e
          rw [mUp_eq, if_pos (by omega)]
        · rw [mUp_ne _ _ e, hr j]
          by_cases z : j < i
          · rw [if_pos z, if_pos (by omega)]
          · rw [if_neg z, if_neg (by omega)]
      · refine k D2 C2 α2 S2 r' c2 s2 k2 L2 hr2 (fun y => ?_) (fun y z => hC2 y ?_) hk2 hn2 hz
        · rw [hD2 y]
          unfold pEn
          by_cases h : D y
          · simp only [h, true_or]
          · simp only [h, false_or]
            omega
        · unfold pEn at z ⊢
          by_cases h : C y
          · simp only [h, true_or]
          · simp only [h, false_or] at z ⊢
            omega
set_option maxHeartbeats 4000000 in
theorem loop1 {F k0 n0 : Nat} {S0 : wPS} {A : Nat} {f : Nat → Int32} {r0 : Nat → Option Nat} {Φ : Unit → wPS → Prop} (h0 : r0 6 = some 13) : ∀ (m i k' : Nat), i + m = 24 → m + 19 ≤ k' → ∀ (D C : Nat → Prop) (α : Nat → Nat) (S : wPS) (r1 r2 r3 : Nat → Option Nat) (c s : Nat), pLp D C α S0 S A f r0 r1 r2 r3 → (∀ j, r2 j = if j < i then some (352 + 8 * j) else none) → (∀ y, 352 + 8 * i ≤ y → y < 544 → ¬ D y) → c + 6 * m + 48 ≤ k0 → s + 189 * m + 800 ≤ n0 → (∀ (D' C' : Nat → Prop) (α' : Nat → Nat) (S' : wPS) (r2' : Nat → Option Nat) (c' s' k2 : Nat), pLp D' C' α' S0 S' A f r0 r1 r2' r3 → (∀ j, r2' j = if j < 24 then some (352 + 8 * j) else none) → (∀ y, D' y ↔ D y ∨ pEn (352 + 8 * i) 544 y) → (∀ y, C y ∨ pEn (352 + 8 * i) 544 y → C' y) → c' + 48 ≤ k0 → s' + 800 ≤ n0 → 18 ≤ k2 → rX11_init_go F k0 n0 k2 2 c' s' A (0 : Int32) S' Φ) → rX11_init_go F k0 n0 k' 1 c s A (Int32.ofNat i) S Φ := by
  intro m
  induction m with
  | zero =>
    intro i k' hi hk' D C α S r1 r2 r3 c s L hr hD hk hn k
    cases k' with
    | zero => omega
    | succ k' =>
      have hi2 : i = 24 := by omega
      subst hi2
      rw [rX11_init_go, if_neg (by decide), if_pos rfl]
      unfold rX11_init_b1
      rw [if_pos ((pOf (i := 24) (by decide)).2.2.2.2.1.mpr (by decide))]
      exact k D C α S r2 c s k' L hr (fun y => ⟨Or.inl, fun z => z.elim id (fun z => by unfold pEn at z; omega)⟩) (fun y z => z.elim id (fun z => by unfold pEn at z; omega)) (by omega) (by omega) (by omega)
  | succ m ih =>
    intro i k' hi hk' D C α S r1 r2 r3 c s L hr hD hk hn k
    cases k' with
    | zero => omega
    | succ k' =>
      rw [rX11_init_go, if_neg (by decide), if_pos rfl]
      unfold rX11_init_b1
      obtain ⟨p1, p2, p3, p4, p5, p6⟩ := pOf (i := i) (by omega)
      rw [if_neg (fun z => by have := p5.mp z; omega)]
      have LL := L
      obtain ⟨P, eA, d0, d1, d2, d3, n0', n1, n2, n3, W, Y1, Y2, Y3⟩ := L
      refine ⟨α 13, pLp_b LL h0, ⟨(P.2.1 13 d2).1, (P.2.1 13 d2).2.2⟩, ?_⟩
      refine iterE (B := 352) (i := i) P d2 n2 rfl Y2 (mK_e (by omega)) (fun y hy => hD y (by omega) (by omega)) p1 p2 (by omega) (by omega) (by omega) (fun α1 S1 P1 H1 Z1 => ?_)
      refine wkLt_at p3.symm ?_
      have W1 := H1.rawP P1 W d0 (by omega) (fun _ => Or.inl)
      have Y1' := H1.rowP P1 Y1 d1 (by omega) (fun _ => Or.inl)
      have Y3' := H1.rowP P1 Y3 d3 (by omega) (fun _ => Or.inl)
      refine ih (i + 1) k' (by omega) (by omega) _ _ α1 S1 _ _ _ _ _ ⟨P1, (H1 0 d0).1.trans eA, Or.inl d0, Or.inl d1, Or.inl d2, Or.inl d3, pno n0' (by omega), pno n1 (by omega), pno n2 (by omega), pno n3 (by omega), W1, Y1', Z1, Y3'⟩ (fun j => ?_) (fun y a b => pno (hD y (by omega) b) (by omega)) (by omega) (by omega) (fun D2 C2 α2 S2 r' c2 s2 k2 L2 hr2 hD2 hC2 hk2 hn2 hz => ?_)
      · by_cases e : j = i
        · subst e
          rw [mUp_eq, if_pos (by omega)]
        · rw [mUp_ne _ _ e, hr j]
          by_cases z : j < i
          · rw [if_pos z, if_pos (by omega)]
          · rw [if_neg z, if_neg (by omega)]
      · refine k D2 C2 α2 S2 r' c2 s2 k2 L2 hr2 (fun y => ?_) (fun y z => hC2 y ?_) hk2 hn2 hz
        · rw [hD2 y]
          unfold pEn
          by_cases h : D y
          · simp only [h, true_or]
          · simp only [h, false_or]
            omega
        · unfold pEn at z ⊢
          by_cases h : C y
          · simp only [h, true_or]
          · simp only [h, false_or] at z ⊢
            omega
set_option maxHeartbeats 4000000 in
theorem loop2 {F k0 n0 : Nat} {S0 : wPS} {A : Nat} {f : Nat → Int32} {r0 : Nat → Option Nat} {Φ : Unit → wPS → Prop} (h0 : r0 14 = some 17) : ∀ (m i k' : Nat), i + m = 16 → m + 1 ≤ k' → ∀ (D C : Nat → Prop) (α : Nat → Nat) (S : wPS) (r1 r2 r3 : Nat → Option Nat) (c s : Nat), pLp D C α S0 S A f r0 r1 r2 r3 → (∀ j, r3 j = if j < i then some (1024 + 4 * j) else none) → (∀ y, 1024 + 4 * i ≤ y → y < 1088 → ¬ D y) → c + 3 * m + 0 ≤ k0 → s + 50 * m + 0 ≤ n0 → (∀ (D' C' : Nat → Prop) (α' : Nat → Nat) (S' : wPS) (r3' : Nat → Option Nat) (c' s' k2 : Nat), pLp D' C' α' S0 S' A f r0 r1 r2 r3' → (∀ j, r3' j = if j < 16 then some (1024 + 4 * j) else none) → (∀ y, D' y ↔ D y ∨ pCl (1024 + 4 * i) 1088 y) → (∀ y, C y ∨ pCl (1024 + 4 * i) 1088 y → C' y) → c' + 0 ≤ k0 → s' + 0 ≤ n0 → 0 ≤ k2 → Φ () S') → rX11_init_go F k0 n0 k' 2 c s A (Int32.ofNat i) S Φ := by
  intro m
  induction m with
  | zero =>
    intro i k' hi hk' D C α S r1 r2 r3 c s L hr hD hk hn k
    cases k' with
    | zero => omega
    | succ k' =>
      have hi2 : i = 16 := by omega
      subst hi2
      rw [rX11_init_go, if_neg (by decide), if_neg (by decide), if_pos rfl]
      unfold rX11_init_b2
      rw [if_pos ((pOf (i := 16) (by decide)).2.2.2.2.2.mpr (by decide))]
      exact k D C α S r3 c s 0 L hr (fun y => ⟨Or.inl, fun z => z.elim id (fun z => by unfold pCl at z; omega)⟩) (fun y z => z.elim id (fun z => by unfold pCl at z; omega)) (by omega) (by omega) (Nat.le_refl _)
  | succ m ih =>
    intro i k' hi hk' D C α S r1 r2 r3 c s L hr hD hk hn k
    cases k' with
    | zero => omega
    | succ k' =>
      rw [rX11_init_go, if_neg (by decide), if_neg (by decide), if_pos rfl]
      unfold rX11_init_b2
      obtain ⟨p1, p2, p3, p4, p5, p6⟩ := pOf (i := i) (by omega)
      rw [if_neg (fun z => by have := p6.mp z; omega)]
      have LL := L
      obtain ⟨P, eA, d0, d1, d2, d3, n0', n1, n2, n3, W, Y1, Y2, Y3⟩ := L
      refine ⟨α 17, pLp_b LL h0, ⟨(P.2.1 17 d3).1, (P.2.1 17 d3).2.2⟩, ?_⟩
      refine iterC (B := 1024) (i := i) P d3 n3 rfl Y3 (mK_c (by omega)) (fun y hy => hD y (by omega) (by omega)) p1 p2 (by omega) (by omega) (by omega) (fun α1 S1 P1 H1 Z1 => ?_)
      refine wkLt_at p3.symm ?_
      have W1 := H1.rawP P1 W d0 (by omega) (fun _ => Or.inl)
      have Y1' := H1.rowP P1 Y1 d1 (by omega) (fun _ => Or.inl)
      have Y2' := H1.rowP P1 Y2 d2 (by omega) (fun _ => Or.inl)
      refine ih (i + 1) k' (by omega) (by omega) _ _ α1 S1 _ _ _ _ _ ⟨P1, (H1 0 d0).1.trans eA, Or.inl d0, Or.inl d1, Or.inl d2, Or.inl d3, pno n0' (by omega), pno n1 (by omega), pno n2 (by omega), pno n3 (by omega), W1, Y1', Y2', Z1⟩ (fun j => ?_) (fun y a b => pno (hD y (by omega) b) (by omega)) (by omega) (by omega) (fun D2 C2 α2 S2 r' c2 s2 k2 L2 hr2 hD2 hC2 hk2 hn2 hz => ?_)
      · by_cases e : j = i
        · subst e
          rw [mUp_eq, if_pos (by omega)]
        · rw [mUp_ne _ _ e, hr j]
          by_cases z : j < i
          · rw [if_pos z, if_pos (by omega)]
          · rw [if_neg z, if_neg (by omega)]
      · refine k D2 C2 α2 S2 r' c2 s2 k2 L2 hr2 (fun y => ?_) (fun y z => hC2 y ?_) hk2 hn2 hz
        · rw [hD2 y]
          unfold pCl
          by_cases h : D y
          · simp only [h, true_or]
          · simp only [h, false_or]
            omega
        · unfold pCl at z ⊢
          by_cases h : C y
          · simp only [h, true_or]
          · simp only [h, false_or] at z ⊢
            omega
end
