/-! WHAT EACH METHOD LEAVES ALONE (lift4.py). -/
section
/-- V1 is V but for the cells in w -/
def mAv (w : Nat → Prop) (V V1 : mV) : Prop := (∀ i, ¬ w i → V1.fI i = V.fI i ∧ V1.fJ i = V.fJ i ∧ V1.rI i = V.rI i ∧ V1.rJ i = V.rJ i) ∧ (¬ w 17 → V1.cl = V.cl)
def mAl (w : Nat → Prop) (Ln Ln1 : Nat → Nat) : Prop := ∀ i, ¬ w i → Ln1 i = Ln i
theorem mAv.rf {w : Nat → Prop} {V : mV} : mAv w V V := ⟨fun _ _ => ⟨rfl, rfl, rfl, rfl⟩, fun _ => rfl⟩
theorem mAl.rf {w : Nat → Prop} {Ln : Nat → Nat} : mAl w Ln Ln := fun _ _ => rfl
theorem mAv.tr {w w' : Nat → Prop} {V V1 V2 : mV} (a : mAv w V V1) (b : mAv w' V1 V2) (h : ∀ i, w' i → w i) : mAv w V V2 := ⟨fun i hi => by
  obtain ⟨a1, a2, a3, a4⟩ := a.1 i hi
  obtain ⟨b1, b2, b3, b4⟩ := b.1 i (fun z => hi (h i z))
  exact ⟨b1.trans a1, b2.trans a2, b3.trans a3, b4.trans a4⟩, fun hi => (b.2 (fun z => hi (h 17 z))).trans (a.2 hi)⟩
theorem mAl.tr {w w' : Nat → Prop} {V V1 V2 : Nat → Nat} (a : mAl w V V1) (b : mAl w' V1 V2) (h : ∀ i, w' i → w i) : mAl w V V2 := fun i hi => (b i (fun z => hi (h i z))).trans (a i hi)
theorem mAv.F {w : Nat → Prop} {V0 V : mV} {i j : Nat} {v : Int32} (a : mAv w V0 V) (h : w i) : mAv w V0 (mF V i j v) := ⟨fun x hx => by
  obtain ⟨a1, a2, a3, a4⟩ := a.1 x hx
  exact ⟨(mUp_ne _ _ (fun e => hx (e ▸ h))).trans a1, a2, a3, a4⟩, a.2⟩
theorem mAv.G {w : Nat → Prop} {V0 V : mV} {i j : Nat} {v : Int64} (a : mAv w V0 V) (h : w i) : mAv w V0 (mG V i j v) := ⟨fun x hx => by
  obtain ⟨a1, a2, a3, a4⟩ := a.1 x hx
  exact ⟨a1, (mUp_ne _ _ (fun e => hx (e ▸ h))).trans a2, a3, a4⟩, a.2⟩
theorem mAv.RI {w : Nat → Prop} {V0 V : mV} {i : Nat} {f : Nat → Int32} (a : mAv w V0 V) (h : w i) : mAv w V0 (mRI V i f) := ⟨fun x hx => by
  obtain ⟨a1, a2, a3, a4⟩ := a.1 x hx
  exact ⟨a1, a2, (mUp_ne _ _ (fun e => hx (e ▸ h))).trans a3, a4⟩, a.2⟩
theorem mAv.RJ {w : Nat → Prop} {V0 V : mV} {i : Nat} {f : Nat → Int64} (a : mAv w V0 V) (h : w i) : mAv w V0 (mRJ V i f) := ⟨fun x hx => by
  obtain ⟨a1, a2, a3, a4⟩ := a.1 x hx
  exact ⟨a1, a2, a3, (mUp_ne _ _ (fun e => hx (e ▸ h))).trans a4⟩, a.2⟩
theorem mAv.I {w : Nat → Prop} {V0 V : mV} {i : Nat} {x v : Int32} (a : mAv w V0 V) (h : w i) : mAv w V0 (mI V i x v) := mAv.RI a h
theorem mAv.J {w : Nat → Prop} {V0 V : mV} {i : Nat} {x : Int32} {v : Int64} (a : mAv w V0 V) (h : w i) : mAv w V0 (mJ V i x v) := mAv.RJ a h
theorem mAl.up {w : Nat → Prop} {Ln L : Nat → Nat} {x : Nat} (a : mAl w Ln L) (h : w 3000) : mAl w Ln (va_up L 3000 x) := fun i hi => (mUp_ne _ _ (fun e => hi (e ▸ h))).trans (a i hi)
theorem mAv.C {w : Nat → Prop} {V0 V : mV} {k c : Nat} (a : mAv w V0 V) (h : w 17) : mAv w V0 (mCl V k c) := ⟨a.1, fun z => absurd h z⟩
end
