/-! WHAT EACH METHOD LEAVES ALONE (lift4.py). -/
section
/-- V1 is V but for the cells in w -/
def mAv (w : Nat → Prop) (V V1 : mV) : Prop := (∀ i, ¬ w i → V1.fI i = V.fI i ∧ V1.fJ i = V.fJ i ∧ V1.rI i = V.rI i ∧ V1.rJ i = V.rJ i) ∧ (¬ w 17 → V1.cl = V.cl)
def mAl (w : Nat → Prop) (Ln Ln1 : Nat → Nat) : Prop := ∀ i, ¬ w i → Ln1 i = Ln i
theorem mAv.rf {w : Nat → Prop} {V : mV} : mAv w V V := ⟨fun _ _ => ⟨rfl, rfl, rfl, rfl⟩, fun _ => rfl⟩
theorem mAl.rf {w : Nat → Prop} {Ln : Nat → Nat} : mAl w Ln Ln := fun _ _ => rfl
theorem mAv.tr {w w' : Nat → Prop} {V V1 V2 : mV} (a : mAv w V V1) (b : mAv w' V1 V2) (h : ∀ i, w' i → w i) : mAv w V V2 := ⟨fun i hi => by
  obtain ⟨a1, a2, a3, a4⟩ := a.1 i hi
  obtain ⟨b1, b2, b3, b4⟩ := b.1 i (fun z => hi (h i z))
  exact ⟨b1.trans a1, b2.trans a2, b3.trans a3, b4.trans a4⟩, fun hi => (b.2 (fun z => hi (h 17 z))).trans (a.2 hi)⟩
theorem mAl.tr {w w' : Nat → Prop} {V V1 V2 : Nat → Nat} (a : mAl w V V1) (b : mAl w' V1 V2) (h : ∀ i, w' i → w i) : mAl w V V2 := fun i hi => (b i (fun z => hi (h i z))).trans (a i hi)
theorem mAv.F {w : Nat → Prop} {V0 V : mV} {i j : Nat} {v : Int32} (a : mAv w V0 V) (h : w i) : mAv w V0 (mF V i j v) := ⟨fun x hx => by
  obtain ⟨a1, a2, a3, a4⟩ := a.1 x hx
  have ne : x ≠ i := fun e => hx (by rw [e]; exact h)
  exact ⟨(mUp_ne _ _ ne).trans a1, a2, a3, a4⟩, a.2⟩
theorem mAv.G {w : Nat → Prop} {V0 V : mV} {i j : Nat} {v : Int64} (a : mAv w V0 V) (h : w i) : mAv w V0 (mG V i j v) := ⟨fun x hx => by
  obtain ⟨a1, a2, a3, a4⟩ := a.1 x hx
  have ne : x ≠ i := fun e => hx (by rw [e]; exact h)
  exact ⟨a1, (mUp_ne _ _ ne).trans a2, a3, a4⟩, a.2⟩
theorem mAv.RI {w : Nat → Prop} {V0 V : mV} {i : Nat} {f : Nat → Int32} (a : mAv w V0 V) (h : w i) : mAv w V0 (mRI V i f) := ⟨fun x hx => by
  obtain ⟨a1, a2, a3, a4⟩ := a.1 x hx
  have ne : x ≠ i := fun e => hx (by rw [e]; exact h)
  exact ⟨a1, a2, (mUp_ne _ _ ne).trans a3, a4⟩, a.2⟩
theorem mAv.RJ {w : Nat → Prop} {V0 V : mV} {i : Nat} {f : Nat → Int64} (a : mAv w V0 V) (h : w i) : mAv w V0 (mRJ V i f) := ⟨fun x hx => by
  obtain ⟨a1, a2, a3, a4⟩ := a.1 x hx
  have ne : x ≠ i := fun e => hx (by rw [e]; exact h)
  exact ⟨a1, a2, a3, (mUp_ne _ _ ne).trans a4⟩, a.2⟩
theorem mAv.I {w : Nat → Prop} {V0 V : mV} {i : Nat} {x v : Int32} (a : mAv w V0 V) (h : w i) : mAv w V0 (mI V i x v) := mAv.RI a h
theorem mAv.J {w : Nat → Prop} {V0 V : mV} {i : Nat} {x : Int32} {v : Int64} (a : mAv w V0 V) (h : w i) : mAv w V0 (mJ V i x v) := mAv.RJ a h
theorem mAl.up {w : Nat → Prop} {Ln L : Nat → Nat} {x p : Nat} (a : mAl w Ln L) (h : w p) : mAl w Ln (va_up L p x) := fun i hi => (mUp_ne _ _ (show i ≠ p from fun e => hi (by rw [e]; exact h))).trans (a i hi)
theorem mAv.C {w : Nat → Prop} {V0 V : mV} {k c : Nat} (a : mAv w V0 V) (h : w 17) : mAv w V0 (mCl V k c) := ⟨a.1, fun z => absurd h z⟩
def wX9_add (l0A : Nat) (i : Nat) : Prop := i = l0A ∨ i = l0A + 1
theorem NX9_add {F r : Nat} {x : Int32} {Ln Ln1 : Nat → Nat} {V V1 : mV} {v : Unit} (h : mX9_add F Ln r x V = some (v, Ln1, V1)) : mAv (wX9_add r) V V1 ∧ mAl (wX9_add r) Ln Ln1 := by
  have r0 : wX9_add r r := Or.inl rfl
  have r1 : wX9_add r (r + 1) := Or.inr rfl
  unfold mX9_add at h
  obtain ⟨_, h⟩ := mGd_some h
  rcases mIf_some h with ⟨_, h⟩ | ⟨_, h⟩
  · rcases mIf_some h with ⟨_, h⟩ | ⟨_, h⟩
    · obtain ⟨_, h⟩ := mGd_some h
      obtain ⟨_, rfl, rfl⟩ := mRA3 h
      exact ⟨mAv.F (mAv.I mAv.rf r1) r0, mAl.rf⟩
    · obtain ⟨_, h⟩ := mGd_some h
      obtain ⟨_, rfl, rfl⟩ := mRA3 h
      exact ⟨mAv.F (mAv.I (mAv.RI mAv.rf r1) r1) r0, mAl.up mAl.rf r1⟩
  · obtain ⟨_, rfl, rfl⟩ := mRA3 h
    exact ⟨mAv.rf, mAl.rf⟩
def wX9_copy (l0A : Nat) (_l1A : Nat) (i : Nat) : Prop := i = l0A ∨ i = l0A + 1
theorem NX9_copy {F r r2 : Nat} {Ln Ln1 : Nat → Nat} {V V1 : mV} {v : Unit} (h : mX9_copy F Ln r r2 V = some (v, Ln1, V1)) : mAv (wX9_copy r r2) V V1 ∧ mAl (wX9_copy r r2) Ln Ln1 := by
  have r0 : wX9_copy r r2 r := Or.inl rfl
  have r1 : wX9_copy r r2 (r + 1) := Or.inr rfl
  unfold mX9_copy at h
  obtain ⟨_, h⟩ := mGd_some h
  rcases mIf_some h with ⟨_, h⟩ | ⟨_, h⟩
  · obtain ⟨_, h⟩ := mGd_some h
    obtain ⟨_, rfl, rfl⟩ := mRA3 h
    exact ⟨mAv.F (mAv.RI mAv.rf r1) r0, mAl.rf⟩
  · obtain ⟨_, h⟩ := mGd_some h
    obtain ⟨_, rfl, rfl⟩ := mRA3 h
    exact ⟨mAv.F (mAv.RI mAv.rf r1) r0, mAl.up mAl.rf r1⟩
def wX11_addError (i : Nat) : Prop := i = 0 ∨ i = 9
theorem NX11_addError_b {Ln Ln1 : Nat → Nat} {V V1 : mV} {e l n x : Int32} {v : Unit} (h : mX11_addError_b Ln e l n x V = some (v, Ln1, V1)) : mAv wX11_addError V V1 ∧ Ln1 = Ln := by
  have r0 : wX11_addError 0 := Or.inl rfl
  have r9 : wX11_addError 9 := Or.inr rfl
  unfold mX11_addError_b at h
  obtain ⟨_, h⟩ := mGd_some h
  obtain ⟨V2, e2, h⟩ := mLt_some h
  obtain ⟨_, h⟩ := mGd_some h
  obtain ⟨V4, e4, h⟩ := mLt_some h
  obtain ⟨_, h⟩ := mGd_some h
  obtain ⟨V6, e6, h⟩ := mLt_some h
  obtain ⟨_, h⟩ := mGd_some h
  obtain ⟨V8, e8, h⟩ := mLt_some h
  obtain ⟨_, rfl, rfl⟩ := mRA3 h
  subst e2 e4 e6 e8
  refine ⟨?_, rfl⟩
  first | exact mAv.F (mAv.I (mAv.I (mAv.I (mAv.I mAv.rf r9) r9) r9) r9) r0 | exact mAv.I (mAv.I (mAv.I (mAv.I mAv.rf r9) r9) r9) r9
theorem NX11_addError {F : Nat} {Ln Ln1 : Nat → Nat} {V V1 : mV} {l1I l2I l3I : Int32} {v : Unit} (h : mX11_addError F Ln l1I l2I l3I V = some (v, Ln1, V1)) : mAv wX11_addError V V1 ∧ mAl wX11_addError Ln Ln1 := by
  have r9 : wX11_addError 9 := Or.inr rfl
  unfold mX11_addError at h
  obtain ⟨_, h⟩ := mGd_some h
  rcases mIf_some h with ⟨_, h⟩ | ⟨_, h⟩
  · obtain ⟨_, _, h⟩ := mLt_some h
    rcases mIf_some h with ⟨_, h⟩ | ⟨_, h⟩
    · obtain ⟨a, rfl⟩ := NX11_addError_b h
      exact ⟨a, mAl.rf⟩
    · obtain ⟨_, h⟩ := mGd_some h
      obtain ⟨a, rfl⟩ := NX11_addError_b h
      exact ⟨mAv.tr (mAv.RI mAv.rf r9) a (fun _ z => z), mAl.up mAl.rf r9⟩
  · obtain ⟨_, rfl, rfl⟩ := mRA3 h
    exact ⟨mAv.rf, mAl.rf⟩
end
