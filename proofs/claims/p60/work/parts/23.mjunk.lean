/-! WHAT LIES BESIDE A BOOK: cells of the law's own, and a second book; both leave the book as it is. -/
section
/-- what was there is there, and as it was -/
def mSame (S S' : wPS) : Prop := ∀ a, a ∈ S.L → a ∈ S'.L ∧ S'.K a = S.K a ∧ S'.fI a = S.fI a ∧ S'.fJ a = S.fJ a ∧ S'.fA a = S.fA a ∧ S'.len a = S.len a ∧ S'.rI a = S.rI a ∧ S'.rJ a = S.rJ a ∧ S'.rA a = S.rA a
theorem mSame.rf {S : wPS} : mSame S S := fun _ h => ⟨h, rfl, rfl, rfl, rfl, rfl, rfl, rfl, rfl⟩
theorem mSame.tr {S S1 S2 : wPS} (h : mSame S S1) (h2 : mSame S1 S2) : mSame S S2 := fun a ha => by
  obtain ⟨a1, a2, a3, a4, a5, a6, a7, a8, a9⟩ := h a ha
  obtain ⟨b1, b2, b3, b4, b5, b6, b7, b8, b9⟩ := h2 a a1
  exact ⟨b1, b2.trans a2, b3.trans a3, b4.trans a4, b5.trans a5, b6.trans a6, b7.trans a7, b8.trans a8, b9.trans a9⟩
theorem mSame.nI {S : wPS} {q k z : Nat} {f : Nat → Int32} (h : ¬ q ∈ S.L) : mSame S (wnI S q k z f) := fun a ha => by
  have ne : a ≠ q := fun e => h (e ▸ ha)
  exact ⟨List.mem_append_left _ ha, mUp_ne _ _ ne, rfl, rfl, rfl, mUp_ne _ _ ne, mUp_ne _ _ ne, rfl, rfl⟩
theorem mSame.nJ {S : wPS} {q z : Nat} {f : Nat → Int64} (h : ¬ q ∈ S.L) : mSame S (wnJ S q z f) := fun a ha => by
  have ne : a ≠ q := fun e => h (e ▸ ha)
  exact ⟨List.mem_append_left _ ha, mUp_ne _ _ ne, rfl, rfl, rfl, mUp_ne _ _ ne, rfl, mUp_ne _ _ ne, rfl⟩
theorem mSame.nA {S : wPS} {q k z : Nat} {f : Nat → Option Nat} (h : ¬ q ∈ S.L) : mSame S (wnA S q k z f) := fun a ha => by
  have ne : a ≠ q := fun e => h (e ▸ ha)
  exact ⟨List.mem_append_left _ ha, mUp_ne _ _ ne, rfl, rfl, rfl, mUp_ne _ _ ne, rfl, rfl, mUp_ne _ _ ne⟩
theorem mSame.nO {S : wPS} {q k : Nat} (h : ¬ q ∈ S.L) : mSame S (wnO S q k) := fun a ha => by
  have ne : a ≠ q := fun e => h (e ▸ ha)
  exact ⟨List.mem_append_left _ ha, mUp_ne _ _ ne, mUp_ne _ _ ne, mUp_ne _ _ ne, mUp_ne _ _ ne, rfl, rfl, rfl, rfl⟩
theorem mSame.uRI {S0 S : wPS} {q : Nat} {f : Nat → Int32} (h : mSame S0 S) (hq : ¬ q ∈ S0.L) : mSame S0 (wuRI S q f) := fun a ha => by
  have ne : a ≠ q := fun e => hq (e ▸ ha)
  obtain ⟨a1, a2, a3, a4, a5, a6, a7, a8, a9⟩ := h a ha
  exact ⟨a1, a2, a3, a4, a5, a6, (mUp_ne _ _ ne).trans a7, a8, a9⟩
theorem mSame.uF {S0 S : wPS} {q j : Nat} {v : Int32} (h : mSame S0 S) (hq : ¬ q ∈ S0.L) : mSame S0 (wuF S q j v) := fun a ha => by
  have ne : a ≠ q := fun e => hq (e ▸ ha)
  obtain ⟨a1, a2, a3, a4, a5, a6, a7, a8, a9⟩ := h a ha
  exact ⟨a1, a2, (mUp_ne _ _ ne).trans a3, a4, a5, a6, a7, a8, a9⟩
theorem mSame.uA {S0 S : wPS} {q j : Nat} {v : Option Nat} (h : mSame S0 S) (hq : ¬ q ∈ S0.L) : mSame S0 (wuA S q j v) := fun a ha => by
  have ne : a ≠ q := fun e => hq (e ▸ ha)
  obtain ⟨a1, a2, a3, a4, a5, a6, a7, a8, a9⟩ := h a ha
  exact ⟨a1, a2, a3, a4, (mUp_ne _ _ ne).trans a5, a6, a7, a8, a9⟩
/-- a pool that is the same on a book's own cells -/
theorem mRel_on {α : Nat → Nat} {S S' : wPS} {Ln : Nat → Nat} {V : mV} (R : mRel α S Ln V) (h : ∀ a, ((∃ i, mK i ≠ 99 ∧ a = α i) ∨ ∃ d, mDy d ∧ a = mq α S d) → a ∈ S'.L ∧ S'.K a = S.K a ∧ S'.fI a = S.fI a ∧ S'.fJ a = S.fJ a ∧ S'.fA a = S.fA a ∧ S'.len a = S.len a ∧ S'.rI a = S.rI a ∧ S'.rJ a = S.rJ a ∧ S'.rA a = S.rA a) : mRel α S' Ln V ∧ ∀ d, mDy d → mq α S' d = mq α S d := by
  obtain ⟨h1, h2, h3, h4, h5, h6, h7, h8, h9⟩ := R
  have hi : ∀ i, mK i ≠ 99 → _ := fun i z => h (α i) (Or.inl ⟨i, z, rfl⟩)
  have hm : ∀ d, mDy d → mq α S' d = mq α S d := fun d hd => by
    unfold mq
    rw [(hi _ (mOw_live hd)).2.2.2.2.1]
  have hd : ∀ d, mDy d → _ := fun d z => h (mq α S d) (Or.inr ⟨d, z, rfl⟩)
  have no : ∀ i j t, mR i j = some t → mK i ≠ 99 := fun i j t ht z => by
    have : ∀ i, i < 9 → mK i ≠ 99 := by decide
    unfold mR at ht
    by_cases c : i < 9
    · exact this i c z
    · rw [if_neg c, if_neg (by omega), if_neg (by omega)] at ht
      cases ht
  have na : ∀ i k t, mRA i k = some t → mK i ≠ 99 := fun i k t ht z => by
    unfold mRA at ht
    repeat' split at ht
    all_goals first | (cases ht; done) | (subst_vars; revert z; decide)
  refine ⟨⟨fun i z => ?_, h2, fun i z => ?_, fun i z z' => ?_, fun i j t ht => ?_, fun i k t ht => ?_, fun k hk => ?_, fun d z => ?_, fun d d' z z' e => ?_⟩, hm⟩
  · obtain ⟨a1, a2, _⟩ := hi i z
    exact ⟨a1, a2.trans (h1 i z).2⟩
  · obtain ⟨_, _, a3, a4, _⟩ := hi i (by omega)
    exact ⟨a3.trans (h3 i z).1, a4.trans (h3 i z).2⟩
  · obtain ⟨_, _, _, _, _, a6, a7, a8, _⟩ := hi i z'
    exact ⟨a6.trans (h4 i z z').1, fun y => a7.trans ((h4 i z z').2.1 y), fun y => a8.trans ((h4 i z z').2.2 y)⟩
  · rw [(hi i (no i j t ht)).2.2.2.2.1]
    exact h5 i j t ht
  · rw [(hi i (na i k t ht)).2.2.2.2.2.2.2.2]
    exact h6 i k t ht
  · rw [(hi 17 (by decide)).2.2.2.2.2.2.2.2]
    exact h7 k hk
  · rw [hm d z, (hi _ (mOw_live z)).2.2.2.2.1]
    obtain ⟨b1, b2, b3, b4, b5⟩ := h8 d z
    obtain ⟨a1, a2, _, _, _, a6, a7, _⟩ := hd d z
    exact ⟨b1, ⟨a1, a2.trans b2.2⟩, a6.trans b3, a7.trans b4, b5⟩
  · rw [hm d z, hm d' z'] at e
    exact h9 d d' z z' e
theorem mRel_same {α : Nat → Nat} {S S' : wPS} {Ln : Nat → Nat} {V : mV} (R : mRel α S Ln V) (h : mSame S S') : mRel α S' Ln V ∧ ∀ d, mDy d → mq α S' d = mq α S d := mRel_on R fun a ha => h a (by
  rcases ha with ⟨i, hi, rfl⟩ | ⟨d, hd, rfl⟩
  · exact (R.1 i hi).1
  · exact (R.2.2.2.2.2.2.2.1 d hd).2.1.1)
theorem mFr_same {α : Nat → Nat} {S S' : wPS} {Ln : Nat → Nat} {V : mV} (R : mRel α S Ln V) (h : mSame S S') (hw : wkWF S → wkWF S') : mFr α S S' := ⟨fun a ha => (h a ha).1, hw, fun a ha _ hd => by
  obtain ⟨a1, a2, a3, a4, a5, a6, a7, a8, a9⟩ := h a ha
  exact ⟨a1, a2, a3, a4, a5, a6, a7, a8, a9, fun d z => by rw [(mRel_same R h).2 d z]; exact hd d z⟩⟩
/-- a cell of the law's own: a row of six numbers that is none of the book's -/
def mLoc (α : Nat → Nat) (S : wPS) (q n : Nat) (t : Nat → Int32) : Prop := q ∈ S.L ∧ (∀ i, mK i ≠ 99 → q ≠ α i) ∧ (∀ d, mDy d → q ≠ mq α S d) ∧ S.len q = n ∧ S.rI q = t
theorem mLoc.fr {α : Nat → Nat} {S S' : wPS} {q n : Nat} {t : Nat → Int32} (J : mLoc α S q n t) (F : mFr α S S') : mLoc α S' q n t := by
  obtain ⟨j1, j2, j3, j4, j5⟩ := J
  obtain ⟨a1, a2, a3, a4, a5, a6, a7, a8, a9, a10⟩ := F.2.2 q j1 j2 j3
  exact ⟨a1, j2, a10, a6.trans j4, a7.trans j5⟩
/-- a place of it is told anew -/
theorem mLoc.up {α : Nat → Nat} {S0 S : wPS} {Ln : Nat → Nat} {V : mV} {q n : Nat} {t : Nat → Int32} {f : wPS → Prop} {i x : Int32} (J : mLoc α S q n t) (R : mRel α S Ln V) (F0 : mFr α S0 S) (hq : ¬ q ∈ S0.L) (k : ∀ S', mRel α S' Ln V → mFr α S0 S' → mLoc α S' q n (upd t i.toNatClampNeg x) → f S') : wkLt (wuI S q i x) f := by
  obtain ⟨j1, j2, j3, j4, j5⟩ := J
  have ne : ∀ a, ((∃ i, mK i ≠ 99 ∧ a = α i) ∨ ∃ d, mDy d ∧ a = mq α S d) → a ≠ q := fun a ha e => by
    rcases ha with ⟨i, hi, z⟩ | ⟨d, hd, z⟩
    · exact j2 i hi (e.symm.trans z)
    · exact j3 d hd (e.symm.trans z)
  have hin : ∀ a, ((∃ i, mK i ≠ 99 ∧ a = α i) ∨ ∃ d, mDy d ∧ a = mq α S d) → a ∈ S.L := fun a ha => by
    rcases ha with ⟨i, hi, rfl⟩ | ⟨d, hd, rfl⟩
    · exact (R.1 i hi).1
    · exact (R.2.2.2.2.2.2.2.1 d hd).2.1.1
  refine k (wuI S q i x) (mRel_on (S' := wuI S q i x) R fun a ha => ⟨hin a ha, rfl, rfl, rfl, rfl, rfl, mUp_ne _ _ (ne a ha), rfl, rfl⟩).1 ⟨F0.1, F0.2.1, fun a ha hn hd => ?_⟩ ⟨j1, j2, j3, j4, ?_⟩
  · obtain ⟨a1, a2, a3, a4, a5, a6, a7, a8, a9, a10⟩ := F0.2.2 a ha hn hd
    exact ⟨a1, a2, a3, a4, a5, a6, (mUp_ne _ _ (fun e : a = q => hq (e ▸ ha))).trans a7, a8, a9, a10⟩
  · show va_up S.rI q _ q = _
    rw [mUp_eq, j5]
/-- it is made -/
theorem mLoc.mk {α : Nat → Nat} {S : wPS} {Ln : Nat → Nat} {V : mV} {q n : Nat} {g : Nat → Int32} (R : mRel α S Ln V) (hq : ¬ q ∈ S.L) : mRel α (wnI S q 13 n g) Ln V ∧ mFr α S (wnI S q 13 n g) ∧ mLoc α (wnI S q 13 n g) q n g := by
  have h := mRel_same R (mSame.nI (k := 13) (z := n) (f := g) hq)
  refine ⟨h.1, mFr_same R (mSame.nI hq) (fun w => (wkWF_newI rfl w hq).1), List.mem_append_right _ List.mem_cons_self, fun i hi e => hq (e ▸ (R.1 i hi).1), fun d hd e => ?_, mUp_eq _ _ _, mUp_eq _ _ _⟩
  rw [h.2 d hd] at e
  exact hq (e ▸ (R.2.2.2.2.2.2.2.1 d hd).2.1.1)
theorem mLoc.new {α : Nat → Nat} {S : wPS} {Ln : Nat → Nat} {V : mV} {q n : Nat} {g : Nat → Int32} {f : wPS → Prop} (R : mRel α S Ln V) (hq : ¬ q ∈ S.L) (k : ∀ S', mRel α S' Ln V → mFr α S S' → mLoc α S' q n g → f S') : wkLt (wnI S q 13 n g) f := k _ (mLoc.mk R hq).1 (mLoc.mk R hq).2.1 (mLoc.mk R hq).2.2
/-- four numbers of which one is picked -/
def mPick4 (Ln : Nat → Nat) (a b c d i : Int32) (V : mV) : Option (Int32 × (Nat → Nat) × mV) := if ¬ Ln 3000 < 5000 then none else if i < 0 ∨ 4 ≤ i.toNatClampNeg then none else some (upd (upd (upd (upd (fun _ => 0) 0 a) 1 b) 2 c) 3 d i.toNatClampNeg, va_up Ln 3000 (Ln 3000 + 1), V)
def rPick4 (G : wkG) (F k n : Nat) (a b c d l1I : Int32) (S : wPS) (Φ : Int32 → wPS → Prop) : Prop := ¬ (4 : Int32) < 0 ∧ 0 + 1 ≤ k ∧ 0 + ((4 : Int32)).toNatClampNeg ≤ n ∧ ((4 : Int32)).toNatClampNeg * 4 ≤ 536870912 ∧ ∀ q4 : Nat, ¬ q4 ∈ S.L → wkLt (wnI S q4 13 ((4 : Int32)).toNatClampNeg (fun _ => 0)) fun S5 => ¬ ((0 : Int32) < 0 ∨ S5.len q4 ≤ ((0 : Int32)).toNatClampNeg) ∧ wkLt (wuI S5 q4 (0 : Int32) a) fun S7 => ¬ ((1 : Int32) < 0 ∨ S7.len q4 ≤ ((1 : Int32)).toNatClampNeg) ∧ wkLt (wuI S7 q4 (1 : Int32) b) fun S9 => ¬ ((2 : Int32) < 0 ∨ S9.len q4 ≤ ((2 : Int32)).toNatClampNeg) ∧ wkLt (wuI S9 q4 (2 : Int32) c) fun S11 => ¬ ((3 : Int32) < 0 ∨ S11.len q4 ≤ ((3 : Int32)).toNatClampNeg) ∧ wkLt (wuI S11 q4 (3 : Int32) d) fun S13 => rL_pick G F l1I q4 S13 fun v14 S15 => Φ v14 S15
theorem MPick4 {Ln Ln1 : Nat → Nat} {V V1 : mV} {v a b c d i : Int32} (h : mPick4 Ln a b c d i V = some (v, Ln1, V1)) : mP Ln1 + 16 = mP Ln := by
  unfold mPick4 at h
  obtain ⟨c1, h⟩ := mGd_some h
  obtain ⟨_, h⟩ := mGd_some h
  cases h
  exact mP_th (Decidable.not_not.mp c1)
theorem LPick4 {G : wkG} {α : Nat → Nat} {F : Nat} {S : wPS} {Ln Ln1 : Nat → Nat} {V V1 : mV} {v : Int32} {Φ : (Int32 → wPS → Prop)} {a b c d l1I : Int32} {k0 n0 : Nat} (h : mPick4 Ln a b c d l1I V = some (v, Ln1, V1)) (R : mRel α S Ln V) (hk : (mP Ln - mP Ln1) / 16 ≤ k0) (hn : mP Ln - mP Ln1 ≤ n0) (k : ∀ S1, mRel α S1 Ln1 V1 → mFr α S S1 → Φ v S1) : rPick4 G F k0 n0 a b c d l1I S Φ := by
  have hp := MPick4 h
  unfold mPick4 at h
  obtain ⟨c1, h⟩ := mGd_some h
  obtain ⟨c2, h⟩ := mGd_some h
  obtain ⟨rfl, rfl, rfl⟩ := mRA3 h
  have four : ((4 : Int32)).toNatClampNeg = 4 := by decide
  unfold rPick4
  rw [four]
  refine ⟨by decide, by omega, by omega, by decide, fun q hq => ?_⟩
  refine mLoc.new R hq (fun S5 R5 F5 J5 => ?_)
  refine ⟨by rw [J5.2.2.2.1]; decide, J5.up R5 F5 hq (fun S7 R7 F7 J7 => ?_)⟩
  refine ⟨by rw [J7.2.2.2.1]; decide, J7.up R7 F7 hq (fun S9 R9 F9 J9 => ?_)⟩
  refine ⟨by rw [J9.2.2.2.1]; decide, J9.up R9 F9 hq (fun S11 R11 F11 J11 => ?_)⟩
  refine ⟨by rw [J11.2.2.2.1]; decide, J11.up R11 F11 hq (fun S13 R13 F13 J13 => ?_)⟩
  unfold rL_pick
  rw [J13.2.2.2.1, J13.2.2.2.2]
  exact ⟨c2, k _ (mRel_th R13) F13⟩
end
