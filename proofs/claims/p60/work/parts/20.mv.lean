/-! ONE BOOK BY ITS OWN NUMBERS: what each number is (kinds, lengths, references), the relation of a pool to such a book, the frame, the lifting of each step. -/
section
def mKs : List Nat := [11, 4, 7, 2, 5, 1, 8, 10, 6, 99, 16, 13, 13, 16, 12, 13, 13, 15, 13, 13, 13, 13, 13, 13, 13, 13, 13, 13, 13, 13, 13, 13, 13, 13, 13, 18, 14, 14, 14, 14, 14, 14, 14, 14, 14, 14, 14, 14, 14, 14, 13, 13, 13, 13, 14, 18, 14, 14, 14, 14, 14, 18, 14, 14, 14, 14, 14, 13, 14, 14, 17, 13, 13, 13, 13, 13, 13, 13, 13, 13, 13, 13, 13, 13, 13, 13, 13, 13, 13, 13, 13]
def mLs : List Nat := [0, 0, 0, 0, 0, 0, 0, 0, 0, 0, 12, 12, 5, 24, 24, 24, 6, 16, 9, 9, 512, 10, 10, 10, 10, 7, 7, 7, 7, 7, 22, 22, 49, 7, 7, 14, 18, 18, 18, 18, 18, 18, 18, 18, 18, 18, 18, 18, 18, 18, 14, 18, 8, 128, 4, 4, 4, 4, 4, 4, 4, 5, 4, 4, 4, 4, 4, 5, 4, 4, 5, 6, 6, 6, 6, 6, 6, 6, 6, 720, 720, 720, 256, 96, 8, 8, 8, 64, 8, 8, 8]
def mRs : List (List Nat) := [[1, 10, 0, 11, 12, 544, 13, 14, 15, 0, 0, 2048, 16, 0, 17], [2, 3, 4, 5, 6, 7, 8, 18], [19, 20, 21, 22, 23, 24, 25, 26], [27, 28, 29, 30, 31, 32, 33, 34], [35, 50, 51], [52, 53], [54, 55, 60, 0, 61, 67, 68, 69], [70, 76, 77, 78, 79, 80, 81, 82, 83], [84, 85, 86, 87, 88, 89, 90]]
def mK (i : Nat) : Nat := if i < 256 then mKs.getD i 99 else if i < 552 then (if i % 8 = 0 then 3 else if i % 8 = 1 then 13 else if i % 8 = 2 then 9 else if i % 8 = 4 then 9 else 99) else if i < 1024 then 99 else if i < 1088 then (if i % 4 = 0 then 0 else if i % 4 = 1 then 9 else 99) else if i = 2048 then 9 else 99
def mLen (i : Nat) : Nat := if i < 256 then mLs.getD i 0 else 80
def mR (i j : Nat) : Option Nat := if i < 9 then (if (mRs.getD i []).getD j 0 = 0 then none else some ((mRs.getD i []).getD j 0)) else if mK i = 3 then (if j = 7 then some (i + 1) else if j = 13 then some (i + 2) else if j = 16 then some (i + 4) else none) else if mK i = 0 then (if j = 3 then some (i + 1) else none) else none
def mRA (i k : Nat) : Option Nat := if i = 10 then (if k < 12 then some (256 + 8 * k) else none) else if i = 13 then (if k < 24 then some (352 + 8 * k) else none) else if i = 35 then (if k < 14 then some (36 + k) else none) else if i = 55 then (if k < 4 then some (56 + k) else none) else if i = 61 then (if k < 5 then some (62 + k) else none) else if i = 70 then (if k < 5 then some (71 + k) else none) else none
def mDy (d : Nat) : Prop := (d = 9 ∨ (0 < d ∧ mK (d - 1) = 9)) ∧ mK d = 99
def mOw (d : Nat) : Nat := if d = 9 then 0 else d - 1
def mOf (d : Nat) : Nat := if d = 9 then 16 else 0
def mDys : List Nat := 9 :: ((List.range 37).flatMap fun e => [256 + 8 * e + 3, 256 + 8 * e + 5]) ++ (List.range 16).map (fun c => 1024 + 4 * c + 2) ++ [2049]
def mCap (d : Nat) : Nat := if d = 9 then 32768 else 1024
/-- what rows may still grow, in all -/
def mP (Ln : Nat → Nat) : Nat := (mDys.map fun d => 2 * mCap d - 2 * Ln d).sum + 16 * (5000 - Ln 3000) + 400000 * (2 - Ln 3001)
abbrev mV : Type := (Nat → Nat → Int32) × (Nat → Nat → Int64) × (Nat → Nat → Int32) × (Nat → Nat → Int64) × (Nat → Nat)
abbrev mV.fI (V : mV) : Nat → Nat → Int32 := V.1
abbrev mV.fJ (V : mV) : Nat → Nat → Int64 := V.2.1
abbrev mV.rI (V : mV) : Nat → Nat → Int32 := V.2.2.1
abbrev mV.rJ (V : mV) : Nat → Nat → Int64 := V.2.2.2.1
abbrev mV.cl (V : mV) : Nat → Nat := V.2.2.2.2
def mF (V : mV) (i j : Nat) (v : Int32) : mV := (va_up V.fI i (va_up (V.fI i) j v), V.fJ, V.rI, V.rJ, V.cl)
def mG (V : mV) (i j : Nat) (v : Int64) : mV := (V.fI, va_up V.fJ i (va_up (V.fJ i) j v), V.rI, V.rJ, V.cl)
def mRI (V : mV) (i : Nat) (f : Nat → Int32) : mV := (V.fI, V.fJ, va_up V.rI i f, V.rJ, V.cl)
def mRJ (V : mV) (i : Nat) (f : Nat → Int64) : mV := (V.fI, V.fJ, V.rI, va_up V.rJ i f, V.cl)
def mCl (V : mV) (k c : Nat) : mV := (V.fI, V.fJ, V.rI, V.rJ, va_up V.cl k c)
def mI (V : mV) (i : Nat) (x v : Int32) : mV := mRI V i (upd (V.rI i) x.toNatClampNeg v)
def mJ (V : mV) (i : Nat) (x : Int32) (v : Int64) : mV := mRJ V i (vp_updL (V.rJ i) x.toNatClampNeg v)
def mLt {α β : Type} (v : α) (f : α → Option β) : Option β := f v
def mBN {α β : Type} (o : Option α) (f : α → Option β) : Option β := o.bind f
def mBW {α β γ : Type} (o : Option (α × β)) (f : α → β → Option γ) : Option γ := o.bind fun p => f p.1 p.2
def mBA {α β γ δ : Type} (o : Option (α × β × γ)) (f : α → β → γ → Option δ) : Option δ := o.bind fun p => f p.1 p.2.1 p.2.2
theorem mLt_some {α β : Type} {v : α} {f : α → Option β} {r : β} (h : mLt v f = some r) : ∃ x, x = v ∧ f x = some r := ⟨v, rfl, h⟩
theorem mBN_some {α β : Type} {o : Option α} {f : α → Option β} {r : β} (h : mBN o f = some r) : ∃ x, o = some x ∧ f x = some r := by
  unfold mBN at h
  cases o with
  | none => cases h
  | some x => exact ⟨x, rfl, h⟩
theorem mBW_some {α β γ : Type} {o : Option (α × β)} {f : α → β → Option γ} {r : γ} (h : mBW o f = some r) : ∃ x y, o = some (x, y) ∧ f x y = some r := by
  unfold mBW at h
  cases o with
  | none => cases h
  | some p => exact ⟨p.1, p.2, rfl, h⟩
theorem mBA_some {α β γ δ : Type} {o : Option (α × β × γ)} {f : α → β → γ → Option δ} {r : δ} (h : mBA o f = some r) : ∃ x y z, o = some (x, y, z) ∧ f x y z = some r := by
  unfold mBA at h
  cases o with
  | none => cases h
  | some p => exact ⟨p.1, p.2.1, p.2.2, rfl, h⟩
theorem mRW {α β : Type} {a v : α} {b w : β} (h : some (a, b) = some (v, w)) : a = v ∧ b = w := by
  cases h
  exact ⟨rfl, rfl⟩
theorem mRA3 {α β γ : Type} {a v : α} {b w : β} {c x : γ} (h : some (a, b, c) = some (v, w, x)) : a = v ∧ b = w ∧ c = x := by
  cases h
  exact ⟨rfl, rfl, rfl⟩
theorem mGd_some {α : Type} {c : Prop} [Decidable c] {B : Option α} {r : α} (h : (if c then none else B) = some r) : ¬ c ∧ B = some r := by
  by_cases q : c
  · rw [if_pos q] at h
    cases h
  · rw [if_neg q] at h
    exact ⟨q, h⟩
theorem mIf_some {α : Type} {c : Prop} [Decidable c] {A B : Option α} {r : α} (h : (if c then A else B) = some r) : (c ∧ A = some r) ∨ (¬ c ∧ B = some r) := by
  by_cases q : c
  · rw [if_pos q] at h
    exact Or.inl ⟨q, h⟩
  · rw [if_neg q] at h
    exact Or.inr ⟨q, h⟩
theorem mIf {α : Type} {c d : Prop} [Decidable c] [Decidable d] {A B : Prop} {A' B' : Option α} {r : α} (h : (if d then A' else B') = some r) (e : c ↔ d) (ha : d → A' = some r → A) (hb : ¬ d → B' = some r → B) : if c then A else B := by
  by_cases q : d
  · rw [if_pos (e.mpr q)]
    rw [if_pos q] at h
    exact ha q h
  · rw [if_neg (fun z => q (e.mp z))]
    rw [if_neg q] at h
    exact hb q h
theorem mGd {α : Type} {c d B : Prop} [Decidable d] {B' : Option α} {r : α} (h : (if d then none else B') = some r) (e : c ↔ d) (k : ¬ d → B' = some r → B) : ¬ c ∧ B := by
  obtain ⟨q, h⟩ := mGd_some h
  exact ⟨fun z => q (e.mp z), k q h⟩
/-- a premise that isn't a guard of the machine's: told by the other side as its negation -/
theorem mGp {α : Type} {c d B : Prop} [Decidable d] {B' : Option α} {r : α} (h : (if ¬ d then none else B') = some r) (e : c ↔ d) (k : d → B' = some r → B) : c ∧ B := by
  obtain ⟨q, h⟩ := mGd_some h
  have q : d := Decidable.not_not.mp q
  exact ⟨e.mpr q, k q h⟩
theorem mLet {α β : Type} {a b : α} {f : α → Prop} {g : α → Option β} {r : β} (h : mLt b g = some r) (e : a = b) (k : ∀ x, x = b → g x = some r → f x) : wkLt a f := e ▸ k b rfl h
def mq (α : Nat → Nat) (S : wPS) (d : Nat) : Nat := wkAd (S.fA (α (mOw d)) (mOf d))
def mRel (α : Nat → Nat) (S : wPS) (Ln : Nat → Nat) (V : mV) : Prop :=
  (∀ i, mK i ≠ 99 → wkIs S (α i) (mK i)) ∧ (∀ i j, mK i ≠ 99 → mK j ≠ 99 → α i = α j → i = j) ∧ (∀ i, mK i < 12 → S.fI (α i) = V.fI i ∧ S.fJ (α i) = V.fJ i) ∧ (∀ i, 12 ≤ mK i → mK i ≠ 99 → S.len (α i) = mLen i ∧ (mK i ≤ 13 → S.rI (α i) = V.rI i) ∧ (mK i = 14 → S.rJ (α i) = V.rJ i)) ∧ (∀ i j t, mR i j = some t → S.fA (α i) j = some (α t)) ∧ (∀ i k t, mRA i k = some t → S.rA (α i) k = some (α t)) ∧ (∀ k, k < 16 → S.rA (α 17) k = some (α (V.cl k)) ∧ mK (V.cl k) = 0) ∧ (∀ d, mDy d → S.fA (α (mOw d)) (mOf d) = some (mq α S d) ∧ wkIs S (mq α S d) 13 ∧ S.len (mq α S d) = Ln d ∧ S.rI (mq α S d) = V.rI d ∧ ∀ i, mK i ≠ 99 → mq α S d ≠ α i) ∧ ∀ d d', mDy d → mDy d' → mq α S d = mq α S d' → d = d'
/-- what is not of the book stays, and stays not of the book -/
def mFr (α : Nat → Nat) (S S' : wPS) : Prop := (∀ a, a ∈ S.L → a ∈ S'.L) ∧ (wkWF S → wkWF S') ∧ ∀ a, a ∈ S.L → (∀ i, mK i ≠ 99 → a ≠ α i) → (∀ d, mDy d → a ≠ mq α S d) → a ∈ S'.L ∧ S'.K a = S.K a ∧ S'.fI a = S.fI a ∧ S'.fJ a = S.fJ a ∧ S'.fA a = S.fA a ∧ S'.len a = S.len a ∧ S'.rI a = S.rI a ∧ S'.rJ a = S.rJ a ∧ S'.rA a = S.rA a ∧ ∀ d, mDy d → a ≠ mq α S' d
theorem mFr.rf {α : Nat → Nat} {S : wPS} : mFr α S S := ⟨fun _ h => h, fun h => h, fun _ ha _ hd => ⟨ha, rfl, rfl, rfl, rfl, rfl, rfl, rfl, rfl, hd⟩⟩
theorem mFr.tr {α : Nat → Nat} {S S1 S2 : wPS} (h : mFr α S S1) (h2 : mFr α S1 S2) : mFr α S S2 := ⟨fun a ha => h2.1 a (h.1 a ha), fun w => h2.2.1 (h.2.1 w), fun a ha hn hd => by
  obtain ⟨a1, a2, a3, a4, a5, a6, a7, a8, a9, a10⟩ := h.2.2 a ha hn hd
  obtain ⟨b1, b2, b3, b4, b5, b6, b7, b8, b9, b10⟩ := h2.2.2 a a1 hn a10
  exact ⟨b1, b2.trans a2, b3.trans a3, b4.trans a4, b5.trans a5, b6.trans a6, b7.trans a7, b8.trans a8, b9.trans a9, b10⟩⟩
theorem mUp_eq {β : Type} (f : Nat → β) (k : Nat) (v : β) : va_up f k v k = v := by unfold va_up; rw [if_pos rfl]
theorem mUp_ne {β : Type} (f : Nat → β) {k j : Nat} (v : β) (h : j ≠ k) : va_up f k v j = f j := by unfold va_up; rw [if_neg h]
section
variable {α : Nat → Nat} {S : wPS} {Ln : Nat → Nat} {V V' : mV} {f : wPS → Prop}
theorem mRel_F {i j : Nat} {v : Int32} (R : mRel α S Ln V) (hi : mK i < 12) : mRel α (wuF S (α i) j v) Ln (mF V i j v) := by
  obtain ⟨h1, h2, h3, h4, h5, h6, h7, h8, h9⟩ := R
  refine ⟨h1, h2, fun i' h' => ⟨?_, (h3 i' h').2⟩, h4, h5, h6, h7, h8, h9⟩
  show va_up S.fI (α i) (va_up (S.fI (α i)) j v) (α i') = va_up V.fI i (va_up (V.fI i) j v) i'
  by_cases e : i' = i
  · subst e
    rw [mUp_eq, mUp_eq, (h3 i' h').1]
  · rw [mUp_ne _ _ e, mUp_ne _ _ (fun q => e (h2 _ _ (by omega) (by omega) q)), (h3 i' h').1]
theorem mRel_G {i j : Nat} {v : Int64} (R : mRel α S Ln V) (hi : mK i < 12) : mRel α (wuG S (α i) j v) Ln (mG V i j v) := by
  obtain ⟨h1, h2, h3, h4, h5, h6, h7, h8, h9⟩ := R
  refine ⟨h1, h2, fun i' h' => ⟨(h3 i' h').1, ?_⟩, h4, h5, h6, h7, h8, h9⟩
  show va_up S.fJ (α i) (va_up (S.fJ (α i)) j v) (α i') = va_up V.fJ i (va_up (V.fJ i) j v) i'
  by_cases e : i' = i
  · subst e
    rw [mUp_eq, mUp_eq, (h3 i' h').2]
  · rw [mUp_ne _ _ e, mUp_ne _ _ (fun q => e (h2 _ _ (by omega) (by omega) q)), (h3 i' h').2]
theorem mRel_RI {i : Nat} {g : Nat → Int32} (R : mRel α S Ln V) (hi : 12 ≤ mK i) (hj : mK i ≠ 99) : mRel α (wuRI S (α i) g) Ln (mRI V i g) := by
  obtain ⟨h1, h2, h3, h4, h5, h6, h7, h8, h9⟩ := R
  refine ⟨h1, h2, h3, fun i' h' h'' => ⟨(h4 i' h' h'').1, fun hz => ?_, (h4 i' h' h'').2.2⟩, h5, h6, h7, fun d hd => ⟨(h8 d hd).1, (h8 d hd).2.1, (h8 d hd).2.2.1, ?_, (h8 d hd).2.2.2.2⟩, h9⟩
  · show va_up S.rI (α i) g (α i') = va_up V.rI i g i'
    by_cases e : i' = i
    · subst e
      rw [mUp_eq, mUp_eq]
    · rw [mUp_ne _ _ e, mUp_ne _ _ (fun q => e (h2 _ _ h'' hj q)), (h4 i' h' h'').2.1 hz]
  · show va_up S.rI (α i) g (mq α S d) = va_up V.rI i g d
    have e : d ≠ i := fun q => by
      subst q
      exact hj hd.2
    rw [mUp_ne _ _ e, mUp_ne _ _ ((h8 d hd).2.2.2.2 i hj), (h8 d hd).2.2.2.1]
theorem mRel_RJ {i : Nat} {g : Nat → Int64} (R : mRel α S Ln V) (hi : 12 ≤ mK i) (hj : mK i ≠ 99) : mRel α (wuRJ S (α i) g) Ln (mRJ V i g) := by
  obtain ⟨h1, h2, h3, h4, h5, h6, h7, h8, h9⟩ := R
  refine ⟨h1, h2, h3, fun i' h' h'' => ⟨(h4 i' h' h'').1, (h4 i' h' h'').2.1, fun hz => ?_⟩, h5, h6, h7, h8, h9⟩
  show va_up S.rJ (α i) g (α i') = va_up V.rJ i g i'
  by_cases e : i' = i
  · subst e
    rw [mUp_eq, mUp_eq]
  · rw [mUp_ne _ _ e, mUp_ne _ _ (fun q => e (h2 _ _ h'' hj q)), (h4 i' h' h'').2.2 hz]
theorem mRel_DI {d : Nat} {g : Nat → Int32} (R : mRel α S Ln V) (hd : mDy d) : mRel α (wuRI S (mq α S d) g) Ln (mRI V d g) := by
  obtain ⟨h1, h2, h3, h4, h5, h6, h7, h8, h9⟩ := R
  refine ⟨h1, h2, h3, fun i' h' h'' => ⟨(h4 i' h' h'').1, fun hz => ?_, (h4 i' h' h'').2.2⟩, h5, h6, h7, fun d' hd' => ⟨(h8 d' hd').1, (h8 d' hd').2.1, (h8 d' hd').2.2.1, ?_, (h8 d' hd').2.2.2.2⟩, h9⟩
  · show va_up S.rI (mq α S d) g (α i') = va_up V.rI d g i'
    have e : i' ≠ d := fun q => by
      subst q
      exact h'' hd.2
    rw [mUp_ne _ _ e, mUp_ne _ _ (fun q => (h8 d hd).2.2.2.2 i' h'' q.symm), (h4 i' h' h'').2.1 hz]
  · show va_up S.rI (mq α S d) g (mq α S d') = va_up V.rI d g d'
    by_cases e : d' = d
    · subst e
      rw [mUp_eq, mUp_eq]
    · rw [mUp_ne _ _ e, mUp_ne _ _ (fun q => e (h9 _ _ hd' hd q)), (h8 d' hd').2.2.2.1]
theorem mRel_cl {k c : Nat} (R : mRel α S Ln V) (hc : mK c = 0) : mRel α (wuRA S (α 17) (va_up (S.rA (α 17)) k (some (α c)))) Ln (mCl V k c) := by
  obtain ⟨h1, h2, h3, h4, h5, h6, h7, h8, h9⟩ := R
  refine ⟨h1, h2, h3, h4, h5, fun i k' t ht => ?_, fun k' hk' => ?_, h8, h9⟩
  · show va_up S.rA (α 17) _ (α i) k' = some (α t)
    by_cases e : α i = α 17
    · have hi : mK i ≠ 99 := fun q => by
        unfold mRA at ht
        repeat' split at ht
        all_goals first | (cases ht; done) | (subst_vars; revert q; decide)
      have := h2 _ _ hi (by decide) e
      subst this
      cases ht
    · rw [mUp_ne _ _ e]
      exact h6 i k' t ht
  · show va_up S.rA (α 17) _ (α 17) k' = some (α (va_up V.cl k c k')) ∧ mK (va_up V.cl k c k') = 0
    rw [mUp_eq]
    by_cases e : k' = k
    · subst e
      rw [mUp_eq, mUp_eq]
      exact ⟨rfl, hc⟩
    · rw [mUp_ne _ _ e, mUp_ne _ _ e]
      exact h7 k' hk'
theorem mFr_F {i j : Nat} {v : Int32} (hi : mK i ≠ 99) : mFr α S (wuF S (α i) j v) := ⟨fun _ h => h, fun h => h, fun _ ha hn hd => ⟨ha, rfl, mUp_ne _ _ (hn i hi), rfl, rfl, rfl, rfl, rfl, rfl, hd⟩⟩
theorem mFr_G {i j : Nat} {v : Int64} (hi : mK i ≠ 99) : mFr α S (wuG S (α i) j v) := ⟨fun _ h => h, fun h => h, fun _ ha hn hd => ⟨ha, rfl, rfl, mUp_ne _ _ (hn i hi), rfl, rfl, rfl, rfl, rfl, hd⟩⟩
theorem mFr_RI {i : Nat} {g : Nat → Int32} (hi : mK i ≠ 99) : mFr α S (wuRI S (α i) g) := ⟨fun _ h => h, fun h => h, fun _ ha hn hd => ⟨ha, rfl, rfl, rfl, rfl, rfl, mUp_ne _ _ (hn i hi), rfl, rfl, hd⟩⟩
theorem mFr_RJ {i : Nat} {g : Nat → Int64} (hi : mK i ≠ 99) : mFr α S (wuRJ S (α i) g) := ⟨fun _ h => h, fun h => h, fun _ ha hn hd => ⟨ha, rfl, rfl, rfl, rfl, rfl, rfl, mUp_ne _ _ (hn i hi), rfl, hd⟩⟩
theorem mFr_cl {k c : Nat} (R : mRel α S Ln V) (hc : mK c = 0) : mFr α S (wuRA S (α 17) (va_up (S.rA (α 17)) k (some (α c)))) := ⟨fun _ h => h, fun h => wkWF_refClaim h (R.1 17 (by decide)) (by have := R.1 c (by omega); rwa [hc] at this), fun _ ha hn hd => ⟨ha, rfl, rfl, rfl, rfl, rfl, rfl, rfl, mUp_ne _ _ (hn 17 (by decide)), hd⟩⟩
theorem mFr_DI {d : Nat} {g : Nat → Int32} (hd : mDy d) : mFr α S (wuRI S (mq α S d) g) := ⟨fun _ h => h, fun h => h, fun _ ha _ hq => ⟨ha, rfl, rfl, rfl, rfl, rfl, mUp_ne _ _ (hq d hd), rfl, rfl, hq⟩⟩
/-- the steps: a field, a long field, a place of a row, a whole row -/
theorem mU_F {i A j : Nat} {v v' : Int32} (eV : V' = mF V i j v') (R : mRel α S Ln V) (hi : mK i < 12) (eA : A = α i) (ev : v = v') (k : ∀ S', mRel α S' Ln V' → mFr α S S' → f S') : wkLt (wuF S A j v) f := by
  subst eV eA ev
  exact k _ (mRel_F R hi) (mFr_F (by omega))
theorem mU_G {i A j : Nat} {v v' : Int64} (eV : V' = mG V i j v') (R : mRel α S Ln V) (hi : mK i < 12) (eA : A = α i) (ev : v = v') (k : ∀ S', mRel α S' Ln V' → mFr α S S' → f S') : wkLt (wuG S A j v) f := by
  subst eV eA ev
  exact k _ (mRel_G R hi) (mFr_G (by omega))
theorem mU_RI {i A : Nat} {g g' : Nat → Int32} (eV : V' = mRI V i g') (R : mRel α S Ln V) (hi : 12 ≤ mK i ∧ mK i ≠ 99 ∧ mK i ≤ 13) (eA : A = α i) (eg : g = g') (k : ∀ S', mRel α S' Ln V' → mFr α S S' → f S') : wkLt (wuRI S A g) f := by
  subst eV eA eg
  exact k _ (mRel_RI R hi.1 hi.2.1) (mFr_RI hi.2.1)
theorem mU_RJ {i A : Nat} {g g' : Nat → Int64} (eV : V' = mRJ V i g') (R : mRel α S Ln V) (hi : 12 ≤ mK i ∧ mK i ≠ 99 ∧ mK i = 14) (eA : A = α i) (eg : g = g') (k : ∀ S', mRel α S' Ln V' → mFr α S S' → f S') : wkLt (wuRJ S A g) f := by
  subst eV eA eg
  exact k _ (mRel_RJ R hi.1 hi.2.1) (mFr_RJ hi.2.1)
theorem mU_I {i A : Nat} {x x' v v' : Int32} (eV : V' = mI V i x' v') (R : mRel α S Ln V) (hi : 12 ≤ mK i ∧ mK i ≠ 99 ∧ mK i ≤ 13) (eA : A = α i) (ex : x = x') (ev : v = v') (k : ∀ S', mRel α S' Ln V' → mFr α S S' → f S') : wkLt (wuI S A x v) f := by
  subst eA ex ev
  refine mU_RI (g' := upd (V.rI i) x.toNatClampNeg v) eV R hi rfl ?_ k
  rw [(R.2.2.2.1 i hi.1 hi.2.1).2.1 hi.2.2]
theorem mU_J {i A : Nat} {x x' : Int32} {v v' : Int64} (eV : V' = mJ V i x' v') (R : mRel α S Ln V) (hi : 12 ≤ mK i ∧ mK i ≠ 99 ∧ mK i = 14) (eA : A = α i) (ex : x = x') (ev : v = v') (k : ∀ S', mRel α S' Ln V' → mFr α S S' → f S') : wkLt (wuJ S A x v) f := by
  subst eA ex ev
  refine mU_RJ (g' := vp_updL (V.rJ i) x.toNatClampNeg v) eV R hi rfl ?_ k
  rw [(R.2.2.2.1 i hi.1 hi.2.1).2.2 hi.2.2]
theorem mU_D {d A : Nat} {g g' : Nat → Int32} (eV : V' = mRI V d g') (R : mRel α S Ln V) (hd : mDy d) (eA : A = mq α S d) (eg : g = g') (k : ∀ S', mRel α S' Ln V' → mFr α S S' → f S') : wkLt (wuRI S A g) f := by
  subst eV eA eg
  exact k _ (mRel_DI R hd) (mFr_DI hd)
theorem mU_DI {d A : Nat} {x x' v v' : Int32} (eV : V' = mI V d x' v') (R : mRel α S Ln V) (hd : mDy d) (eA : A = mq α S d) (ex : x = x') (ev : v = v') (k : ∀ S', mRel α S' Ln V' → mFr α S S' → f S') : wkLt (wuI S A x v) f := by
  subst eA ex ev
  refine mU_D (g' := upd (V.rI d) x.toNatClampNeg v) eV R hd rfl ?_ k
  rw [(R.2.2.2.2.2.2.2.1 d hd).2.2.2.1]
/-- what is read -/
theorem mg_I {i A : Nat} (R : mRel α S Ln V) (hi : mK i < 12) (eA : A = α i) (j : Nat) : S.fI A j = V.fI i j := by
  subst eA
  exact congrFun (R.2.2.1 i hi).1 j
theorem mg_J {i A : Nat} (R : mRel α S Ln V) (hi : mK i < 12) (eA : A = α i) (j : Nat) : S.fJ A j = V.fJ i j := by
  subst eA
  exact congrFun (R.2.2.1 i hi).2 j
theorem mg_A {i A j t : Nat} (R : mRel α S Ln V) (ht : mR i j = some t) (eA : A = α i) : wkAd (S.fA A j) = α t := by
  subst eA
  rw [R.2.2.2.2.1 i j t ht]
  rfl
theorem mg_D {r A : Nat} (hr : mK r = 9) (eA : A = α r) : wkAd (S.fA A 0) = mq α S (r + 1) := by
  subst eA
  have h9 : r ≠ 8 := fun q => by
    subst q
    cases hr
  unfold mq mOw mOf
  rw [if_neg (by omega), if_neg (by omega)]
  rfl
theorem mg_RA {i A k k' t : Nat} (R : mRel α S Ln V) (ht : mRA i k' = some t) (eA : A = α i) (ek : k = k') : wkAd (S.rA A k) = α t := by
  subst eA ek
  rw [R.2.2.2.2.2.1 i k t ht]
  rfl
theorem mg_rI {i A k k' : Nat} (R : mRel α S Ln V) (hi : 12 ≤ mK i ∧ mK i ≠ 99 ∧ mK i ≤ 13) (eA : A = α i) (ek : k = k') : S.rI A k = V.rI i k' := by
  subst eA ek
  exact congrFun ((R.2.2.2.1 i hi.1 hi.2.1).2.1 hi.2.2) k
theorem mg_rJ {i A k k' : Nat} (R : mRel α S Ln V) (hi : 12 ≤ mK i ∧ mK i ≠ 99 ∧ mK i = 14) (eA : A = α i) (ek : k = k') : S.rJ A k = V.rJ i k' := by
  subst eA ek
  exact congrFun ((R.2.2.2.1 i hi.1 hi.2.1).2.2 hi.2.2) k
theorem mg_rIf {i A : Nat} (R : mRel α S Ln V) (hi : 12 ≤ mK i ∧ mK i ≠ 99 ∧ mK i ≤ 13) (eA : A = α i) : S.rI A = V.rI i := by
  subst eA
  exact (R.2.2.2.1 i hi.1 hi.2.1).2.1 hi.2.2
theorem mg_rJf {i A : Nat} (R : mRel α S Ln V) (hi : 12 ≤ mK i ∧ mK i ≠ 99 ∧ mK i = 14) (eA : A = α i) : S.rJ A = V.rJ i := by
  subst eA
  exact (R.2.2.2.1 i hi.1 hi.2.1).2.2 hi.2.2
theorem mg_len {i A : Nat} {P : Prop} (R : mRel α S Ln V) (hi : 12 ≤ mK i ∧ mK i ≠ 99 ∧ P) (eA : A = α i) : S.len A = mLen i := by
  subst eA
  exact (R.2.2.2.1 i hi.1 hi.2.1).1
theorem md_rI {d A k k' : Nat} (R : mRel α S Ln V) (hd : mDy d) (eA : A = mq α S d) (ek : k = k') : S.rI A k = V.rI d k' := by
  subst eA ek
  exact congrFun (R.2.2.2.2.2.2.2.1 d hd).2.2.2.1 k
theorem md_rIf {d A : Nat} (R : mRel α S Ln V) (hd : mDy d) (eA : A = mq α S d) : S.rI A = V.rI d := by
  subst eA
  exact (R.2.2.2.2.2.2.2.1 d hd).2.2.2.1
theorem md_len {d A : Nat} (R : mRel α S Ln V) (hd : mDy d) (eA : A = mq α S d) : S.len A = Ln d := by
  subst eA
  exact (R.2.2.2.2.2.2.2.1 d hd).2.2.1
end

theorem mK3 {e : Nat} (h : mK e = 3) : 256 ≤ e ∧ e < 552 ∧ e % 8 = 0 := by
  unfold mK at h
  by_cases q : e < 256
  · rw [if_pos q] at h
    exfalso
    have : ∀ i, i < 256 → mKs.getD i 99 ≠ 3 := by decide +kernel
    exact this e q h
  · rw [if_neg q] at h
    repeat' split at h
    all_goals first | (exact absurd h (by decide)) | omega
theorem mK0 {c : Nat} (h : mK c = 0) : 1024 ≤ c ∧ c < 1088 ∧ c % 4 = 0 := by
  unfold mK at h
  by_cases q : c < 256
  · rw [if_pos q] at h
    exfalso
    have : ∀ i, i < 256 → mKs.getD i 99 ≠ 0 := by decide +kernel
    exact this c q h
  · rw [if_neg q] at h
    repeat' split at h
    all_goals first | (exact absurd h (by decide)) | omega
theorem mK9 {r : Nat} (h : mK r = 9) : mDy (r + 1) := by
  have h9 : r ≠ 8 := fun q => by
    subst q
    cases h
  refine ⟨Or.inr ⟨by omega, h⟩, ?_⟩
  unfold mK at h
  by_cases q : r < 256
  · rw [if_pos q] at h
    exfalso
    have : ∀ i, i < 256 → mKs.getD i 99 ≠ 9 := by decide +kernel
    exact this r q h
  · rw [if_neg q] at h
    unfold mK
    rw [if_neg (by omega)]
    repeat' split at h
    all_goals first | (exact absurd h (by decide)) | skip
    all_goals (repeat' split) <;> first | rfl | omega
theorem mKe {e j : Nat} (h : 256 ≤ e ∧ e < 552 ∧ e % 8 = 0) (hj : j < 8) : mK (e + j) = if j = 0 then 3 else if j = 1 then 13 else if j = 2 then 9 else if j = 4 then 9 else 99 := by
  unfold mK
  rw [if_neg (by omega), if_pos (by omega)]
  have : (e + j) % 8 = j := by omega
  rw [this]
theorem mKe1 {e : Nat} (h : mK e = 3) : mK (e + 1) = 13 := mKe (mK3 h) (by decide)
theorem mKe2 {e : Nat} (h : mK e = 3) : mK (e + 2) = 9 := mKe (mK3 h) (by decide)
theorem mKe4 {e : Nat} (h : mK e = 3) : mK (e + 4) = 9 := mKe (mK3 h) (by decide)
theorem mKc1 {c : Nat} (h : mK c = 0) : mK (c + 1) = 9 := by
  have := mK0 h
  unfold mK
  repeat' split
  all_goals first | rfl | omega
theorem mRe {e j t : Nat} (h : mK e = 3) (ht : (if j = 7 then some (e + 1) else if j = 13 then some (e + 2) else if j = 16 then some (e + 4) else none) = some t) : mR e j = some t := by
  have := mK3 h
  unfold mR
  rw [if_neg (by omega), if_pos h]
  exact ht
theorem mRc {c : Nat} (h : mK c = 0) : mR c 3 = some (c + 1) := by
  have := mK0 h
  unfold mR
  rw [if_neg (by omega), if_neg (by omega), if_pos h, if_pos rfl]
theorem mA13 {i : Nat} (h : mK i = 13) : 12 ≤ mK i ∧ mK i ≠ 99 ∧ mK i ≤ 13 := by omega
theorem mA14 {i : Nat} (h : mK i = 14) : 12 ≤ mK i ∧ mK i ≠ 99 ∧ mK i = 14 := by omega
theorem mA12 {i : Nat} (h : mK i = 12) : 12 ≤ mK i ∧ mK i ≠ 99 ∧ mK i ≤ 13 := by omega
theorem mAr {i : Nat} (h : 12 ≤ mK i ∧ mK i ≠ 99) : 12 ≤ mK i ∧ mK i ≠ 99 ∧ True := ⟨h.1, h.2, trivial⟩
theorem mO3 {i : Nat} (h : mK i = 3) : mK i < 12 := by omega
theorem mO9 {i : Nat} (h : mK i = 9) : mK i < 12 := by omega
theorem mO0 {i : Nat} (h : mK i = 0) : mK i < 12 := by omega
theorem mRA10 {k : Nat} (h : k < 12) : mRA 10 k = some (256 + 8 * k) := by
  show (if k < 12 then some (256 + 8 * k) else none) = _
  rw [if_pos h]
theorem mKA10 {k : Nat} (h : k < 12) : mK (256 + 8 * k) = 3 := by
  unfold mK
  rw [if_neg (by omega), if_pos (by omega), if_pos (by omega)]
theorem mLA10 {k : Nat} (h : k < 12) : mLen (256 + 8 * k) = 80 := by
  unfold mLen
  rw [if_neg (by omega)]
theorem mRA13 {k : Nat} (h : k < 24) : mRA 13 k = some (352 + 8 * k) := by
  show (if k < 24 then some (352 + 8 * k) else none) = _
  rw [if_pos h]
theorem mKA13 {k : Nat} (h : k < 24) : mK (352 + 8 * k) = 3 := by
  unfold mK
  rw [if_neg (by omega), if_pos (by omega), if_pos (by omega)]
theorem mLA13 {k : Nat} (h : k < 24) : mLen (352 + 8 * k) = 80 := by
  unfold mLen
  rw [if_neg (by omega)]
theorem mRA35 {k : Nat} (h : k < 14) : mRA 35 k = some (36 + k) := by
  show (if k < 14 then some (36 + k) else none) = _
  rw [if_pos h]
theorem mKA35 {k : Nat} (h : k < 14) : mK (36 + k) = 14 := by
  have : ∀ k, k < 14 → mK (36 + k) = 14 := by decide
  exact this k h
theorem mLA35 {k : Nat} (h : k < 14) : mLen (36 + k) = 18 := by
  have : ∀ k, k < 14 → mLen (36 + k) = 18 := by decide
  exact this k h
theorem mRA55 {k : Nat} (h : k < 4) : mRA 55 k = some (56 + k) := by
  show (if k < 4 then some (56 + k) else none) = _
  rw [if_pos h]
theorem mKA55 {k : Nat} (h : k < 4) : mK (56 + k) = 14 := by
  have : ∀ k, k < 4 → mK (56 + k) = 14 := by decide
  exact this k h
theorem mLA55 {k : Nat} (h : k < 4) : mLen (56 + k) = 4 := by
  have : ∀ k, k < 4 → mLen (56 + k) = 4 := by decide
  exact this k h
theorem mRA61 {k : Nat} (h : k < 5) : mRA 61 k = some (62 + k) := by
  show (if k < 5 then some (62 + k) else none) = _
  rw [if_pos h]
theorem mKA61 {k : Nat} (h : k < 5) : mK (62 + k) = 14 := by
  have : ∀ k, k < 5 → mK (62 + k) = 14 := by decide
  exact this k h
theorem mLA61 {k : Nat} (h : k < 5) : mLen (62 + k) = 4 := by
  have : ∀ k, k < 5 → mLen (62 + k) = 4 := by decide
  exact this k h
theorem mRA70 {k : Nat} (h : k < 5) : mRA 70 k = some (71 + k) := by
  show (if k < 5 then some (71 + k) else none) = _
  rw [if_pos h]
theorem mKA70 {k : Nat} (h : k < 5) : mK (71 + k) = 13 := by
  have : ∀ k, k < 5 → mK (71 + k) = 13 := by decide
  exact this k h
theorem mLA70 {k : Nat} (h : k < 5) : mLen (71 + k) = 6 := by
  have : ∀ k, k < 5 → mLen (71 + k) = 6 := by decide
  exact this k h
end
