/-! THE BOOK: the law looks at an entry. -/
section
/-- the same book, at most c throws later -/
def bAt (Ln : Nat → Nat) (c : Nat) (n : Nat) (Q : Nat → qT) (L : Nat → Nat) (V : mV) : Prop := bST L V n Q ∧ L 3000 ≤ Ln 3000 + c ∧ L 3001 = Ln 3001
theorem lkP.at {Ln L : Nat → Nat} {V V1 : mV} {n : Nat} {Q : Nat → qT} (h : bST Ln V n Q) (a : lkP Ln V n Q L V1) : bAt Ln 0 n Q L V1 := ⟨a.st h, by have := a.1.th; omega, a.1.th.2⟩
theorem bAt.tr {L0 L1 L2 : Nat → Nat} {V1 V2 : mV} {n a b c : Nat} {Q : Nat → qT} (x : bAt L0 a n Q L1 V1) (y : bAt L1 b n Q L2 V2) (h : a + b ≤ c) : bAt L0 c n Q L2 V2 := ⟨y.1, by have := x.2.1; have := y.2.1; omega, by rw [y.2.2, x.2.2]⟩
theorem up_3001 {Ln : Nat → Nat} {x : Nat} : (va_up Ln 3000 x) 3001 = Ln 3001 := mUp_ne Ln x (show (3001 : Nat) ≠ 3000 by decide)
theorem T_type {G : wkG} {F n : Nat} {Q : Nat → qT} {Ln : Nat → Nat} {V : mV} {x : Int32} (hI : bST Ln V n Q) (hT : Ln 3000 < 5000) : mTo (mL_type G F Ln x V) (fun p => bAt Ln 1 n Q p.2.1 p.2.2 ∧ ∀ j, j < n → frs V Q j → frs p.2.2 Q j) := by
  obtain ⟨ts, t1⟩ := hI.2.1.1
  have tn := t1.n
  unfold mL_type mX11_type
  rw [t1.1]
  by_cases c : ts.length < 64
  · rw [if_pos (i32lt.mpr (by rw [nI_toInt (by omega)]; exact Int.ofNat_lt.mpr c))]
    obtain ⟨p, e, r1, r2, r3⟩ := T_radd (F := F) (r := 2048) (v := x) (by decide) t1 (by omega)
    have y := hI.ty r2 r3 (fun i z => by unfold wX9_add at z; omega) ⟨_, r1⟩
    show mTo (mBT (mBA (mX9_add F Ln 2048 x V) _) _ _) _
    rw [e]
    exact mTo.ret ⟨⟨y.1, by show p.2.1 3000 ≤ _; omega, y.2.2.2⟩, y.2.1⟩
  · rw [if_neg (fun y => c (by
      have := i32lt.mp y
      rw [nI_toInt (by omega)] at this
      exact Int.ofNat_lt.mp this))]
    refine T_th hT ?_
    rw [if_pos rfl]
    exact mTo.ret ⟨⟨hI.th, by show va_up Ln 3000 (Ln 3000 + 1) 3000 ≤ _; rw [up_3000]; exact Nat.le_refl _, up_3001 (Ln := Ln) (x := Ln 3000 + 1)⟩, fun _ _ h => h⟩
theorem i32_nI {x : Int32} (h : 0 ≤ x.toInt) : ∃ j, x = nI j ∧ j < 2 ^ 31 := by
  refine ⟨x.toNatClampNeg, ?_, ?_⟩
  · apply Int32.toInt_inj.mp
    rw [nI_toInt (by have := x.toInt_lt; have := i32c h; omega), i32c h]
    omega
  · have := x.toInt_lt
    have := i32c h
    omega
theorem T_alter {G : wkG} {F n : Nat} {Q : Nat → qT} {Ln : Nat → Nat} {V : mV} {i x : Int32} (hI : bST Ln V n Q) (hT : Ln 3000 < 5000) (hi : 0 ≤ i.toInt) : mTo (mL_alter G F Ln i x V) (fun p => bAt Ln 1 n Q p.2.1 p.2.2 ∧ ∀ j, j < n → frs V Q j → frs p.2.2 Q j) := by
  obtain ⟨ts, t1⟩ := hI.2.1.1
  have tn := t1.n
  obtain ⟨j, rfl, j1⟩ := i32_nI hi
  unfold mL_alter mX11_alter
  rw [t1.1]
  by_cases c : j < ts.length
  · rw [T_place c (by omega)]
    obtain ⟨p, e, r1, r2⟩ := T_rset (F := F) (j := j) (v := x) t1 c
    have y := hI.ty (w := wX9_set 2048) (Ln1 := Ln) r2 mAl.rf (fun i z => by unfold wX9_set at z; omega) ⟨_, r1⟩
    show mTo (mBT (mBN (mX9_at F Ln 2048 (nI j) V) fun v6 => mBW (mX9_set F Ln 2048 (nI j) x V) _) _ _) _
    rw [T_rAt t1 (by omega), e]
    exact mTo.ret ⟨⟨y.1, Nat.le_add_right _ _, rfl⟩, y.2.1⟩
  · have e : mX11_testPlace F Ln (nI j) (nI ts.length) V = mTh Ln "java/util/NoSuchElementException" V := by
      unfold mX11_testPlace
      rw [if_neg (nI_nn j1), if_neg (fun z => c (by
        have := i32lt.mp z
        rw [nI_toInt j1, nI_toInt (by omega)] at this
        omega))]
    rw [e]
    have e2 : mBT (mTh Ln "java/util/NoSuchElementException" V) (fun (_ : Unit) L2 V2 => (mBN (mX9_at F L2 2048 (nI j) V2) fun v6 => (mBW (mX9_set F L2 2048 (nI j) x V2) fun _ V12 => (some ((.inr v6 : String ⊕ Int32), L2, V12))))) (fun E0 L0 V0 => some (.inl E0, L0, V0)) = some (.inl "java/util/NoSuchElementException", va_up Ln 3000 (Ln 3000 + 1), V) := by
      unfold mTh
      rw [if_pos hT]
      rfl
    rw [e2]
    show mTo (if "java/util/NoSuchElementException" = "java/util/NoSuchElementException" then some ((-4000000000000000001 : Int64), va_up Ln 3000 (Ln 3000 + 1), V) else none) _
    rw [if_pos rfl]
    exact mTo.ret ⟨⟨hI.th, by show va_up Ln 3000 (Ln 3000 + 1) 3000 ≤ _; rw [up_3000]; exact Nat.le_refl _, up_3001 (Ln := Ln) (x := Ln 3000 + 1)⟩, fun _ _ h => h⟩
theorem T_wipe {G : wkG} {F n : Nat} {Q : Nat → qT} {Ln : Nat → Nat} {V : mV} (hI : bST Ln V n Q) : mTo (mL_wipe G F V) (fun p => bST Ln p.2 n Q ∧ ∀ j, j < n → frs V Q j → frs p.2 Q j) := by
  obtain ⟨ts, _, _, t3, _⟩ := hI.2.1.1
  have e : mL_wipe G F V = some (Int32.toInt64 (V.fI 2048 1), mF V 2048 1 0) := rfl
  rw [e]
  have y := hI.ty (w := fun i => i = 2048) (Ln1 := Ln) (V1 := mF V 2048 1 0) (mAv.rf.F rfl) mAl.rf (fun i z => Or.inl z) ⟨[], mF_at, Nat.zero_le _, t3, fun i hi => absurd hi (Nat.not_lt_zero _)⟩
  exact mTo.ret ⟨y.1, y.2.1⟩
theorem i64_le {a b : Int64} : a ≤ b ↔ a.toInt ≤ b.toInt := Int64.le_iff_toInt_le
theorem i64_of {x : Int32} : (Int32.toInt64 x).toInt = x.toInt := Int32.toInt_toInt64 x
theorem i64_eq {a b : Int32} : Int32.toInt64 a = Int32.toInt64 b ↔ a = b := by
  constructor
  · intro h
    apply Int32.toInt_inj.mp
    rw [← i64_of, h, i64_of]
  · intro h
    rw [h]
/-- nothing is accepted in the other sense -/
theorem oth_no {q : qT} {b : Int32} {ts : List Int32} (h : ansP (Qk q) (Qs q) (Qm q) b (Qd q) (aRp q b) (aTo q b) (aRw q b) (aYs q b) (aNo q b)) : (aRp q b = 121 → ¬ aNo q b ts) ∧ (aRp q b = 110 → ¬ aYs q b ts) := ⟨fun e c => h.2.2.2.1 _ _ (h.2.1 e) c, fun e c => h.2.2.2.1 _ _ c (h.2.2.1 e)⟩
theorem ans_at {Ln : Nat → Nat} {V : mV} {n j : Nat} {Q : Nat → qT} (h : bkIn Ln V n Q) (hj : j < n) : ansP (Qk (Q j)) (Qs (Q j)) (Qm (Q j)) (bnd Q j) (Qd (Q j)) (aRp (Q j) (bnd Q j)) (aTo (Q j) (bnd Q j)) (aRw (Q j) (bnd Q j)) (aYs (Q j) (bnd Q j)) (aNo (Q j) (bnd Q j)) := by
  obtain ⟨q1, q2, q3, q4⟩ := h.1
  obtain ⟨a, b, c⟩ := q3 j hj
  exact ansT_ok b (bnd_b q2 hj q4 b.1 c)
/-- whatever is typed is refused in the other sense -/
theorem T_chkO {G : wkG} {F n j : Nat} {Q : Nat → qT} {Ln : Nat → Nat} {V : mV} {w : Int32} (hF : 2 ^ 34 ≤ F) (hI : bST Ln V n Q) (hj : j < n) (hw : (w = 0 ∧ aRp (Q j) (bnd Q j) = 121) ∨ (w = 1 ∧ aRp (Q j) (bnd Q j) = 110)) : mTo (mL_check G F Ln (nI j) w V) (fun p => 0 ≤ lg_cmp p.1 1 ∧ bAt Ln 0 n Q p.2.1 p.2.2) := by
  obtain ⟨ts, t1⟩ := hI.2.1.1
  refine (T_check (G := G) (w := w) hF hI.1 hj t1).mono (fun p ⟨⟨v, e, v1, v2⟩, h2, h3, h4⟩ => ⟨?_, h2.at hI⟩)
  have an := ans_at hI.1 hj
  have o := oth_no (ts := ts) an
  have ne : v ≠ 0 := fun z => by
    have := v2.mp z
    rcases hw with ⟨w0, r⟩ | ⟨w1, r⟩
    · rw [if_pos w0] at this
      exact o.1 r this
    · rw [if_neg (by rw [w1]; decide)] at this
      exact o.2 r this
  rw [lg_cmp_ge, e, i64_le, i64_of]
  have e1 : (1 : Int64).toInt = 1 := rfl
  have : v.toInt ≠ 0 := fun z => ne (Int32.toInt_inj.mp z)
  omega
theorem T_chk2 {G : wkG} {F n j : Nat} {Q : Nat → qT} {Ln : Nat → Nat} {V : mV} {l6 : Int32} {α : Type} {A B C D : (Nat → Nat) → mV → Option α} {R : α → Prop} (hF : 2 ^ 34 ≤ F) (hI : bST Ln V n Q) (hj : j < n) (hw : (l6 = 1 ∧ aRp (Q j) (bnd Q j) = 121) ∨ (l6 = 0 ∧ aRp (Q j) (bnd Q j) = 110)) (k1 : ∀ L V1, bAt Ln 0 n Q L V1 → mTo (A L V1) R) (k2 : ∀ L V1, bAt Ln 0 n Q L V1 → mTo (C L V1) R) : mTo (if l6 = 0 then (mBA (mL_check G F Ln (nI j) ((1 : Int32)) V) fun v L V1 => (if 0 ≤ (lg_cmp v (1 : Int64)) then A L V1 else B L V1)) else (mBA (mL_check G F Ln (nI j) ((0 : Int32)) V) fun v L V1 => (if 0 ≤ (lg_cmp v (1 : Int64)) then C L V1 else D L V1))) R := by
  rcases hw with ⟨e, r⟩ | ⟨e, r⟩
  · rw [if_neg (by rw [e]; decide)]
    refine mTo.A (T_chkO (G := G) hF hI hj (Or.inl ⟨rfl, r⟩)) (fun v L V1 _ q => ?_)
    obtain ⟨q1, q2⟩ := q
    have q1 : 0 ≤ lg_cmp v 1 := q1
    rw [if_pos q1]
    exact k2 L V1 q2
  · rw [if_pos e]
    refine mTo.A (T_chkO (G := G) hF hI hj (Or.inr ⟨rfl, r⟩)) (fun v L V1 _ q => ?_)
    obtain ⟨q1, q2⟩ := q
    have q1 : 0 ≤ lg_cmp v 1 := q1
    rw [if_pos q1]
    exact k1 L V1 q2
theorem T_isOne_go {G : wkG} {F n j a : Nat} {Q : Nat → qT} {Ln0 : Nat → Nat} {l6 : Int32} {len : Nat} (hF : 2 ^ 34 ≤ F) (hG : G.1 9 ≤ 260) (ha : a ≤ 100000) (hj : j < n) (hlen : len ≤ 64) (hw : (l6 = 1 ∧ aRp (Q j) (bnd Q j) = 121) ∨ (l6 = 0 ∧ aRp (Q j) (bnd Q j) = 110)) : ∀ k', (∀ k Ln V, (6 - k) * 2 + 10 ≤ k' → k ≤ 6 → bST Ln V n Q → Ln 3000 + 6 + 4 ≤ 5000 + k → mTo (mL_isOne_go G F k' 1 Ln 0 (nI j) (nI a) l6 (Int32.toInt64 (nI len)) (nI k) V) (fun p => p.1 = 1 ∧ bAt Ln (10 - k) n Q p.2.1 p.2.2)) ∧ (∀ k x Ln V, (6 - k - 1) * 2 + 11 ≤ k' → k < 6 → bST Ln V n Q → Ln 3000 + 6 + 4 ≤ 5000 + k → mTo (mL_isOne_go G F k' 2 Ln x (nI j) (nI a) l6 (Int32.toInt64 (nI len)) (nI k) V) (fun p => p.1 = 1 ∧ bAt Ln (10 - k) n Q p.2.1 p.2.2)) ∧ (∀ k Ln V, (4 - k) + 1 ≤ k' → k ≤ 4 → bST Ln V n Q → Ln 3000 + 4 ≤ 5000 + k → mTo (mL_isOne_go G F k' 3 Ln 0 (nI j) (nI a) l6 0 (nI k) V) (fun p => p.1 = 1 ∧ bAt Ln (4 - k) n Q p.2.1 p.2.2)) := by
  have e12 : (12 : Int32).toInt = 12 := rfl
  have e10 : (10 : Int32).toInt = 10 := rfl
  intro k'
  induction k' with
  | zero => exact ⟨fun k Ln V h => by omega, fun k x Ln V h => by omega, fun k Ln V h => by omega⟩
  | succ k'' ih =>
    obtain ⟨ih1, ih2, ih3⟩ := ih
    refine ⟨fun k Ln V h1 h2 hI hT => ?_, fun k x Ln V h1 h2 hI hT => ?_, fun k Ln V h1 h2 hI hT => ?_⟩
    · rw [mL_isOne_go, if_neg (by decide), if_pos rfl]
      unfold mL_isOne_b1
      refine mTo.le (a := 6) rfl rfl (by decide) (by omega) (fun z => ?_) (fun z => ?_)
      · refine mTo.W (T_wipe (G := G) (F := F) hI) (fun _ V2 _ q => ?_)
        have q1 : bST Ln V2 n Q := q.1
        refine (ih3 0 Ln V2 (by omega) (Nat.zero_le _) q1 (by omega)).mono (fun p hp => ⟨hp.1, hp.2.1, by have := hp.2.2.1; omega, hp.2.2.2⟩)
      · have ea : nI a + (2 : Int32) * nI k = nI (a + 2 * k) := by rw [show (2 : Int32) = nI 2 from rfl, nI_mulC, nI_add]
        rw [ea]
        refine mTo.N (T_drawn (G := G) (F := F) hG (by rw [nI_toInt (by omega)]; omega) (by rw [e12]; decide)) (fun v _ _ => mTo.lt ?_)
        have two : mTo (mL_isOne_go G F k'' 2 Ln (v - 3) (nI j) (nI a) l6 (Int32.toInt64 (nI len)) (nI k) V) (fun p => p.1 = 1 ∧ bAt Ln (10 - k) n Q p.2.1 p.2.2) := ih2 k _ Ln V (by omega) z hI hT
        refine mTo.ite (fun _ => two) (fun y => mTo.ite (fun _ => two) (fun _ => ?_))
        have pos : 0 < len := by
          apply Classical.byContradiction
          intro c
          have : len = 0 := by omega
          subst this
          exact y (by decide)
        rw [show nI (a + 2 * k) + (1 : Int32) = nI (a + 2 * k + 1) from nI_1 _, Int32.toInt32_toInt64]
        refine mTo.N (T_drawn (G := G) (F := F) hG (by rw [nI_toInt (by omega)]; omega) (by rw [nI_toInt (by omega)]; omega)) (fun v52 _ hv => ?_)
        refine mTo.A (T_alter (G := G) (F := F) (x := v - 3) hI (by omega) hv.1) (fun _ L V1 _ q => ?_)
        obtain ⟨⟨q1, q2, q3⟩, _⟩ := q
        have q1 : bST L V1 n Q := q1
        have q2 : L 3000 ≤ Ln 3000 + 1 := q2
        have q3 : L 3001 = Ln 3001 := q3
        have go : ∀ L2 V2, bAt L 0 n Q L2 V2 → mTo (mLt (nI k + (1 : Int32)) fun x76 => (mL_isOne_go G F k'' 1 L2 0 (nI j) (nI a) l6 (Int32.toInt64 (nI len)) x76 V2)) (fun p => p.1 = 1 ∧ bAt Ln (10 - k) n Q p.2.1 p.2.2) := fun L2 V2 h => by
          rw [nI_1]
          refine mTo.lt ((ih1 (k + 1) L2 V2 (by omega) z h.1 (by have := h.2.1; omega)).mono (fun p hp => ⟨hp.1, hp.2.1, ?_, ?_⟩))
          · have := hp.2.2.1
            have := h.2.1
            omega
          · rw [hp.2.2.2, h.2.2, q3]
        exact T_chk2 hF q1 hj hw go go
    · rw [mL_isOne_go, if_neg (by decide), if_neg (by decide), if_pos rfl]
      unfold mL_isOne_b2
      refine mTo.A (T_type (G := G) (F := F) (x := x) hI (by omega)) (fun _ L V1 _ q => ?_)
      obtain ⟨⟨q1, q2, q3⟩, _⟩ := q
      have q1 : bST L V1 n Q := q1
      have q2 : L 3000 ≤ Ln 3000 + 1 := q2
      have q3 : L 3001 = Ln 3001 := q3
      have go : ∀ L2 V2, bAt L 0 n Q L2 V2 → mTo (mLt (nI k + (1 : Int32)) fun x76 => (mL_isOne_go G F k'' 1 L2 0 (nI j) (nI a) l6 (Int32.toInt64 (nI len)) x76 V2)) (fun p => p.1 = 1 ∧ bAt Ln (10 - k) n Q p.2.1 p.2.2) := fun L2 V2 h => by
        rw [nI_1]
        refine mTo.lt ((ih1 (k + 1) L2 V2 (by omega) h2 h.1 (by have := h.2.1; omega)).mono (fun p hp => ⟨hp.1, hp.2.1, ?_, ?_⟩))
        · have := hp.2.2.1
          have := h.2.1
          omega
        · rw [hp.2.2.2, h.2.2, q3]
      exact T_chk2 hF q1 hj hw go go
    · rw [mL_isOne_go, if_neg (by decide), if_neg (by decide), if_neg (by decide), if_pos rfl]
      unfold mL_isOne_b3
      refine mTo.le (a := 4) rfl rfl (by decide) (by omega) (fun z => mTo.ret ⟨rfl, hI, Nat.le_add_right _ _, rfl⟩) (fun z => ?_)
      have go : ∀ L2 V2, bAt Ln 0 n Q L2 V2 → mTo (mBN (mL_drawn G F (((nI a + (20 : Int32)) + nI k)) ((10 : Int32))) fun v122 => (mBA (mL_type G F L2 ((v122 - (1 : Int32))) V2) fun _ L128 V128 => (mLt (nI k + (1 : Int32)) fun x132 => (mL_isOne_go G F k'' 3 L128 0 (nI j) (nI a) l6 0 x132 V128)))) (fun p => p.1 = 1 ∧ bAt Ln (4 - k) n Q p.2.1 p.2.2) := fun L2 V2 h => by
        obtain ⟨g1, g2, g3⟩ := h
        have ea : nI a + (20 : Int32) + nI k = nI (a + 20 + k) := by rw [show (20 : Int32) = nI 20 from rfl, nI_add, nI_add]
        rw [ea]
        refine mTo.N (T_drawn (G := G) (F := F) hG (by rw [nI_toInt (by omega)]; omega) (by rw [e10]; decide)) (fun v _ _ => ?_)
        refine mTo.A (T_type (G := G) (F := F) (x := v - 1) g1 (by omega)) (fun _ L V1 _ q => mTo.lt ?_)
        obtain ⟨⟨q1, q2, q3⟩, _⟩ := q
        have q1 : bST L V1 n Q := q1
        have q2 : L 3000 ≤ L2 3000 + 1 := q2
        have q3 : L 3001 = L2 3001 := q3
        rw [nI_1]
        refine (ih3 (k + 1) L V1 (by omega) z q1 (by omega)).mono (fun p hp => ⟨hp.1, hp.2.1, ?_, ?_⟩)
        · have := hp.2.2.1
          omega
        · rw [hp.2.2.2, q3, g3]
      exact T_chk2 hF hI hj hw go go
theorem T_isOne {G : wkG} {F n j a : Nat} {Q : Nat → qT} {Ln : Nat → Nat} {V : mV} (hF : 2 ^ 34 ≤ F) (hG : G.1 9 ≤ 260) (ha : a ≤ 100000) (hj : j < n) (hI : bST Ln V n Q) (hT : Ln 3000 + 11 ≤ 5000) : mTo (mL_isOne G F Ln (nI j) (nI a) V) (fun p => p.1 = 1 ∧ bAt Ln 11 n Q p.2.1 p.2.2) := by
  obtain ⟨K, hK⟩ : ∃ K, F = K + 1 := ⟨F - 1, by omega⟩
  have zero : ∀ (l6 : Int32) L V1, bAt Ln 0 n Q L V1 → ((l6 = 1 ∧ aRp (Q j) (bnd Q j) = 121) ∨ (l6 = 0 ∧ aRp (Q j) (bnd Q j) = 110)) → mTo (mL_isOne_go G F F 0 L 0 (nI j) (nI a) l6 0 0 V1) (fun p => p.1 = 1 ∧ bAt Ln 11 n Q p.2.1 p.2.2) := fun l6 L V1 h hw => by
    obtain ⟨g1, g2, g3⟩ := h
    rw [hK, mL_isOne_go, if_pos rfl]
    unfold mL_isOne_b0
    rw [← hK]
    refine mTo.A (T_borrow (G := G) hF g1 hj (by omega)) (fun v L2 V2 _ q => ?_)
    obtain ⟨q1, q2, q3, q4, q5⟩ := q
    have q1 : bST L2 V2 n Q := q1
    have q2 : L2 3000 ≤ L 3000 + 1 := q2
    have q3 : L2 3001 = L 3001 := q3
    rcases q5 with ⟨c1, c2, c3⟩ | ⟨c1, c2, c3⟩
    · have c2 : v = Int32.toInt64 (nI (aRw (Q j) (bnd Q j)).length) := c2
      have c3 : rowIs L2 V2 2048 (aRw (Q j) (bnd Q j)) := c3
      rw [c2, if_pos (by rw [lg_cmp_ge, i64_le, i64_of, nI_toInt (by omega)]; exact Int.natCast_nonneg _)]
      refine mTo.A (T_length (G := G) hF q1.1 hj) (fun v7 L8 V8 _ q => ?_)
      obtain ⟨r1, r2, r3, r4⟩ := q
      have r1 : v7 = Int32.toInt64 (nI (aRw (Q j) (bnd Q j)).length) := r1
      have r2 : lkP L2 V2 n Q L8 V8 := r2
      have r3 : frs V8 Q j := r3
      rw [r1, if_pos ((lg_cmp_eq _ _).mpr rfl)]
      have t8 := r2.1.row c3 (by unfold wRf; omega) (by unfold wRf; omega)
      refine mTo.A (T_check (G := G) (w := l6) hF r2.2.1 hj t8) (fun v13 L14 V14 _ q => ?_)
      obtain ⟨⟨x, s1, s2, s3⟩, s4, s5, s6⟩ := q
      have s1 : v13 = Int32.toInt64 x := s1
      have s4 : lkP L8 V8 n Q L14 V14 := s4
      have an := ans_at q1.1 hj
      have x0 : x = 0 := by
        rw [s3]
        rcases hw with ⟨e, r⟩ | ⟨e, r⟩
        · rw [if_neg (by rw [e]; decide)]
          exact an.2.1 r
        · rw [if_pos e]
          exact an.2.2.1 r
      rw [s1, x0, if_pos (show lg_cmp (Int32.toInt64 0) 0 = 0 by decide)]
      have st14 := s4.st (r2.st q1)
      have th1 := r2.1.th
      have th2 := s4.1.th
      have go : ∀ L3 V3, bAt L14 0 n Q L3 V3 → mTo (mL_isOne_go G F K 1 L3 0 (nI j) (nI a) l6 (Int32.toInt64 (nI (aRw (Q j) (bnd Q j)).length)) ((0 : Int32)) V3) (fun p => p.1 = 1 ∧ bAt Ln 11 n Q p.2.1 p.2.2) := fun L3 V3 h => by
        obtain ⟨h1, h2, h3⟩ := h
        refine ((T_isOne_go (Ln0 := L3) hF hG ha hj c1 hw K).1 0 L3 V3 (by omega) (Nat.zero_le _) h1 (by omega)).mono (fun p hp => ⟨hp.1, hp.2.1, ?_, ?_⟩)
        · have := hp.2.2.1
          omega
        · rw [hp.2.2.2, h3, th2.2, th1.2, q3, g3]
      exact T_chk2 hF st14 hj hw go go
    · have c3 : v = -4000000000000000002 := c3
      rw [c3, if_neg (by decide)]
      refine mTo.A (T_length (G := G) hF q1.1 hj) (fun v7 L8 V8 _ q => ?_)
      obtain ⟨r1, r2, r3, r4⟩ := q
      have r1 : v7 = Int32.toInt64 (nI (aRw (Q j) (bnd Q j)).length) := r1
      have r2 : lkP L2 V2 n Q L8 V8 := r2
      have th1 := r2.1.th
      rw [r1, if_neg (fun y => by
        rw [lg_cmp_le, i64_le, i64_of, nI_toInt (by omega)] at y
        have e64 : (64 : Int64).toInt = 64 := rfl
        omega)]
      exact mTo.ret ⟨rfl, r2.st q1, by show L8 3000 ≤ _; omega, by show L8 3001 = _; rw [th1.2, q3, g3]⟩
  unfold mL_isOne mL_isOne_s
  refine mTo.A (T_answer (G := G) hF hI.1 hj) (fun v L V1 _ q => ?_)
  obtain ⟨r1, r2, r3⟩ := q
  have r1 : v = Int32.toInt64 (aRp (Q j) (bnd Q j)) := r1
  have r2 : lkP Ln V n Q L V1 := r2
  have an := ans_at hI.1 hj
  rw [r1]
  rcases an.1 with e | e
  · rw [e, if_pos (by decide)]
    exact zero 1 L V1 (r2.at hI) (Or.inl ⟨rfl, e⟩)
  · rw [e, if_neg (by decide), if_pos (by decide)]
    exact zero 0 L V1 (r2.at hI) (Or.inr ⟨rfl, e⟩)
theorem T_areOne {G : wkG} {F n a : Nat} {Q : Nat → qT} {Ln : Nat → Nat} {V : mV} (hF : 2 ^ 34 ≤ F) (hG : G.1 9 ≤ 260) (ha : a ≤ 50000) (hI : bST Ln V n Q) (hT : Ln 3000 + 11 * 12 ≤ 5000) : mTo (mL_areOne G F Ln (nI a) V) (fun p => p.1 = 1 ∧ bAt Ln (11 * 12) n Q p.2.1 p.2.2) := by
  have n12 := hI.1.1.2.1
  have go : ∀ k' i L V1, n < i + k' → i ≤ n → bAt Ln (11 * i) n Q L V1 → mTo (mL_areOne_go G F k' 0 L (nI a) (nI i) V1) (fun p => p.1 = 1 ∧ bAt Ln (11 * 12) n Q p.2.1 p.2.2) := by
    intro k'
    induction k' with
    | zero => intro i L V1 h1 h2; omega
    | succ k ih =>
      intro i L V1 h1 h2 h
      obtain ⟨g1, g2, g3⟩ := h
      rw [mL_areOne_go, if_pos rfl]
      unfold mL_areOne_b0
      rw [T_entries g1.1.1.1]
      refine mTo.so rfl (mTo.ite (fun z => mTo.ret ⟨rfl, g1, by show L 3000 ≤ _; omega, g3⟩) (fun z => ?_))
      have lt : i < n := by
        apply Classical.byContradiction
        intro c
        refine z ?_
        rw [lg_cmp_ge, i64_le, i64_of, i64_of, nI_toInt (by omega), nI_toInt (by omega)]
        omega
      have ea : nI a + (7 : Int32) * nI i = nI (a + 7 * i) := by rw [show (7 : Int32) = nI 7 from rfl, nI_mulC, nI_add]
      rw [ea]
      refine mTo.A (T_isOne (G := G) hF hG (by omega) lt g1 (by omega)) (fun v L2 V2 _ q => ?_)
      obtain ⟨q1, q2, q3, q4⟩ := q
      have q1 : v = 1 := q1
      rw [q1, if_neg (by decide), nI_1]
      have q3 : L2 3000 ≤ L 3000 + 11 := q3
      have q4 : L2 3001 = L 3001 := q4
      exact mTo.lt (ih (i + 1) L2 V2 (by omega) lt ⟨q2, by omega, by rw [q4, g3]⟩)
  unfold mL_areOne mL_areOne_s
  exact go F 0 Ln V (by omega) (Nat.zero_le _) ⟨hI, Nat.le_add_right _ _, rfl⟩
end
