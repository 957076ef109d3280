/-! THE BOOK: what a judge answers is not below 0. -/
section
def nnW (o : Option (Int32 × mV)) : Prop := ∀ v V1, o = some (v, V1) → 0 ≤ v.toInt
def nnN (o : Option Int32) : Prop := ∀ v, o = some v → 0 ≤ v.toInt
theorem nnW.none : nnW none := fun _ _ h => by cases h
theorem nnW.ret {c : Int32} {V : mV} (h : 0 ≤ c.toInt) : nnW (some (c, V)) := fun _ _ e => by cases e; exact h
theorem nnW.lt {β : Type} {v : β} {f : β → Option (Int32 × mV)} (h : nnW (f v)) : nnW (mLt v f) := h
theorem nnW.ite {c : Prop} [Decidable c] {a b : Option (Int32 × mV)} (h1 : nnW a) (h2 : nnW b) : nnW (if c then a else b) := by
  by_cases h : c
  · rw [if_pos h]; exact h1
  · rw [if_neg h]; exact h2
theorem nnW.N {β : Type} {o : Option β} {f : β → Option (Int32 × mV)} (h : ∀ v, nnW (f v)) : nnW (mBN o f) := fun v V1 e => by
  obtain ⟨x, _, e⟩ := mBN_some e
  exact h x v V1 e
theorem nnW.W {β γ : Type} {o : Option (β × γ)} {f : β → γ → Option (Int32 × mV)} (h : ∀ a b, nnW (f a b)) : nnW (mBW o f) := fun v V1 e => by
  obtain ⟨x, y, _, e⟩ := mBW_some e
  exact h x y v V1 e
theorem nnN.none : nnN none := fun _ h => by cases h
theorem nnN.ret {c : Int32} (h : 0 ≤ c.toInt) : nnN (some c) := fun _ e => by cases e; exact h
theorem nnN.lt {β : Type} {v : β} {f : β → Option Int32} (h : nnN (f v)) : nnN (mLt v f) := h
theorem nnN.ite {c : Prop} [Decidable c] {a b : Option Int32} (h1 : nnN a) (h2 : nnN b) : nnN (if c then a else b) := by
  by_cases h : c
  · rw [if_pos h]; exact h1
  · rw [if_neg h]; exact h2
theorem nnN.N {β : Type} {o : Option β} {f : β → Option Int32} (h : ∀ v, nnN (f v)) : nnN (mBN o f) := fun v e => by
  obtain ⟨x, _, e⟩ := mBN_some e
  exact h x v e
theorem nnN.W {β γ : Type} {o : Option (β × γ)} {f : β → γ → Option Int32} (h : ∀ a b, nnN (f a b)) : nnN (mBW o f) := fun v e => by
  obtain ⟨x, y, _, e⟩ := mBW_some e
  exact h x y v e
theorem JX7_judgePairing_go {F : Nat} : ∀ (k' : Nat) (a0 : Nat) (a1 : (Nat → Nat)) (a2 : Nat) (a3 : Nat) (a4 : Int32) (a5 : Int32) (a6 : Int32) (a7 : mV), nnW (mX7_judgePairing_go F k' a0 a1 a2 a3 a4 a5 a6 a7) := by
  intro k'
  induction k' with
  | zero =>
    intros
    rw [mX7_judgePairing_go]
    exact nnW.none
  | succ k' ih =>
    intros
    rw [mX7_judgePairing_go]
    repeat' first
      | exact nnW.none
      | exact nnW.ret (by decide)
      | apply ih
      | refine nnW.ite ?_ ?_
      | refine nnW.N (fun _ => ?_)
      | (refine nnW.W (fun _ _ => ?_))
      | refine nnW.lt ?_
      | unfold mX7_judgePairing_b0
      | unfold mX7_judgePairing_b1
theorem JX7_judgePairing {F l1A l2A : Nat} {Ln : Nat → Nat} {V : mV} : nnW (mX7_judgePairing F Ln l1A l2A V) := by
  unfold mX7_judgePairing mX7_judgePairing_s
  repeat' first
    | exact nnW.none
    | exact nnW.ret (by decide)
    | apply JX7_judgePairing_go
    | refine nnW.ite ?_ ?_
    | refine nnW.N (fun _ => ?_)
    | (refine nnW.W (fun _ _ => ?_))
    | refine nnW.lt ?_
    | unfold mX7_judgePairing_b0
    | unfold mX7_judgePairing_b1
theorem JX7_judgeNodes_go {F : Nat} : ∀ (k' : Nat) (a0 : Nat) (a1 : (Nat → Nat)) (a2 : Nat) (a3 : Nat) (a4 : Int32) (a5 : Int32) (a6 : Int32) (a7 : Int32) (a8 : mV), nnW (mX7_judgeNodes_go F k' a0 a1 a2 a3 a4 a5 a6 a7 a8) := by
  intro k'
  induction k' with
  | zero =>
    intros
    rw [mX7_judgeNodes_go]
    exact nnW.none
  | succ k' ih =>
    intros
    rw [mX7_judgeNodes_go]
    repeat' first
      | exact nnW.none
      | exact nnW.ret (by decide)
      | apply ih
      | refine nnW.ite ?_ ?_
      | refine nnW.N (fun _ => ?_)
      | (refine nnW.W (fun _ _ => ?_))
      | refine nnW.lt ?_
      | unfold mX7_judgeNodes_b0
      | unfold mX7_judgeNodes_b1
theorem JX7_judgeNodes {F l1A l2A : Nat} {Ln : Nat → Nat} {V : mV} : nnW (mX7_judgeNodes F Ln l1A l2A V) := by
  unfold mX7_judgeNodes mX7_judgeNodes_s
  repeat' first
    | exact nnW.none
    | exact nnW.ret (by decide)
    | apply JX7_judgeNodes_go
    | refine nnW.ite ?_ ?_
    | refine nnW.N (fun _ => ?_)
    | (refine nnW.W (fun _ _ => ?_))
    | refine nnW.lt ?_
    | unfold mX7_judgeNodes_b0
    | unfold mX7_judgeNodes_b1
theorem JX7_judgeFlow_go {F : Nat} : ∀ (k' : Nat) (a0 : Nat) (a1 : (Nat → Nat)) (a2 : Nat) (a3 : Nat) (a4 : Int32) (a5 : mV), nnW (mX7_judgeFlow_go F k' a0 a1 a2 a3 a4 a5) := by
  intro k'
  induction k' with
  | zero =>
    intros
    rw [mX7_judgeFlow_go]
    exact nnW.none
  | succ k' ih =>
    intros
    rw [mX7_judgeFlow_go]
    repeat' first
      | exact nnW.none
      | exact nnW.ret (by decide)
      | apply ih
      | refine nnW.ite ?_ ?_
      | refine nnW.N (fun _ => ?_)
      | (refine nnW.W (fun _ _ => ?_))
      | refine nnW.lt ?_
      | unfold mX7_judgeFlow_b0
      | unfold mX7_judgeFlow_b1
theorem JX7_judgeFlow {F l1A l2A : Nat} {Ln : Nat → Nat} {V : mV} : nnW (mX7_judgeFlow F Ln l1A l2A V) := by
  unfold mX7_judgeFlow mX7_judgeFlow_s
  repeat' first
    | exact nnW.none
    | exact nnW.ret (by decide)
    | apply JX7_judgeFlow_go
    | refine nnW.ite ?_ ?_
    | refine nnW.N (fun _ => ?_)
    | (refine nnW.W (fun _ _ => ?_))
    | refine nnW.lt ?_
    | unfold mX7_judgeFlow_b0
    | unfold mX7_judgeFlow_b1
theorem JX7_judgeBar_go {F : Nat} : ∀ (k' : Nat) (a0 : Nat) (a1 : (Nat → Nat)) (a2 : Nat) (a3 : Nat) (a4 : Int32) (a5 : Int32) (a6 : mV), nnW (mX7_judgeBar_go F k' a0 a1 a2 a3 a4 a5 a6) := by
  intro k'
  induction k' with
  | zero =>
    intros
    rw [mX7_judgeBar_go]
    exact nnW.none
  | succ k' ih =>
    intros
    rw [mX7_judgeBar_go]
    repeat' first
      | exact nnW.none
      | exact nnW.ret (by decide)
      | apply ih
      | refine nnW.ite ?_ ?_
      | refine nnW.N (fun _ => ?_)
      | (refine nnW.W (fun _ _ => ?_))
      | refine nnW.lt ?_
      | unfold mX7_judgeBar_b0
theorem JX7_judgeBar {F l1A l2A : Nat} {Ln : Nat → Nat} {V : mV} : nnW (mX7_judgeBar F Ln l1A l2A V) := by
  unfold mX7_judgeBar mX7_judgeBar_s
  repeat' first
    | exact nnW.none
    | exact nnW.ret (by decide)
    | apply JX7_judgeBar_go
    | refine nnW.ite ?_ ?_
    | refine nnW.N (fun _ => ?_)
    | (refine nnW.W (fun _ _ => ?_))
    | refine nnW.lt ?_
    | unfold mX7_judgeBar_b0
theorem JX2_judgeDrawing_go {F : Nat} : ∀ (k' : Nat) (a0 : Nat) (a1 : (Nat → Nat)) (a2 : Nat) (a3 : Int32) (a4 : mV), nnW (mX2_judgeDrawing_go F k' a0 a1 a2 a3 a4) := by
  intro k'
  induction k' with
  | zero =>
    intros
    rw [mX2_judgeDrawing_go]
    exact nnW.none
  | succ k' ih =>
    intros
    rw [mX2_judgeDrawing_go]
    repeat' first
      | exact nnW.none
      | exact nnW.ret (by decide)
      | apply ih
      | refine nnW.ite ?_ ?_
      | refine nnW.N (fun _ => ?_)
      | (refine nnW.W (fun _ _ => ?_))
      | refine nnW.lt ?_
      | unfold mX2_judgeDrawing_b0
theorem JX2_judgeDrawing {F l1A l2A : Nat} {Ln : Nat → Nat} {V : mV} : nnW (mX2_judgeDrawing F Ln l1A l2A V) := by
  unfold mX2_judgeDrawing mX2_judgeDrawing_s
  repeat' first
    | exact nnW.none
    | exact nnW.ret (by decide)
    | apply JX2_judgeDrawing_go
    | refine nnW.ite ?_ ?_
    | refine nnW.N (fun _ => ?_)
    | (refine nnW.W (fun _ _ => ?_))
    | refine nnW.lt ?_
    | unfold mX2_judgeDrawing_b0
theorem JX2_judgeCore_go {F : Nat} : ∀ (k' : Nat) (a0 : Nat) (a1 : (Nat → Nat)) (a2 : Nat) (a3 : Nat) (a4 : Int32) (a5 : Int32) (a6 : Int32) (a7 : mV), nnW (mX2_judgeCore_go F k' a0 a1 a2 a3 a4 a5 a6 a7) := by
  intro k'
  induction k' with
  | zero =>
    intros
    rw [mX2_judgeCore_go]
    exact nnW.none
  | succ k' ih =>
    intros
    rw [mX2_judgeCore_go]
    repeat' first
      | exact nnW.none
      | exact nnW.ret (by decide)
      | apply ih
      | refine nnW.ite ?_ ?_
      | refine nnW.N (fun _ => ?_)
      | (refine nnW.W (fun _ _ => ?_))
      | refine nnW.lt ?_
      | unfold mX2_judgeCore_b0
theorem JX2_judgeCore {F l1A l2A : Nat} {Ln : Nat → Nat} {V : mV} : nnW (mX2_judgeCore F Ln l1A l2A V) := by
  unfold mX2_judgeCore mX2_judgeCore_s
  repeat' first
    | exact nnW.none
    | exact nnW.ret (by decide)
    | apply JX2_judgeCore_go
    | refine nnW.ite ?_ ?_
    | refine nnW.N (fun _ => ?_)
    | (refine nnW.W (fun _ _ => ?_))
    | refine nnW.lt ?_
    | unfold mX2_judgeCore_b0
theorem JX5_judgeUnknowns_go {F : Nat} : ∀ (k' : Nat) (a0 : Nat) (a1 : (Nat → Nat)) (a2 : Nat) (a3 : Nat) (a4 : Int32) (a5 : mV), nnN (mX5_judgeUnknowns_go F k' a0 a1 a2 a3 a4 a5) := by
  intro k'
  induction k' with
  | zero =>
    intros
    rw [mX5_judgeUnknowns_go]
    exact nnN.none
  | succ k' ih =>
    intros
    rw [mX5_judgeUnknowns_go]
    repeat' first
      | exact nnN.none
      | exact nnN.ret (by decide)
      | apply ih
      | refine nnN.ite ?_ ?_
      | refine nnN.N (fun _ => ?_)
      | (refine nnN.W (fun _ _ => ?_))
      | refine nnN.lt ?_
      | unfold mX5_judgeUnknowns_b0
theorem JX5_judgeUnknowns {F l1A l2A : Nat} {Ln : Nat → Nat} {V : mV} : nnN (mX5_judgeUnknowns F Ln l1A l2A V) := by
  unfold mX5_judgeUnknowns mX5_judgeUnknowns_s
  repeat' first
    | exact nnN.none
    | exact nnN.ret (by decide)
    | apply JX5_judgeUnknowns_go
    | refine nnN.ite ?_ ?_
    | refine nnN.N (fun _ => ?_)
    | (refine nnN.W (fun _ _ => ?_))
    | refine nnN.lt ?_
    | unfold mX5_judgeUnknowns_b0
theorem JX5_judgeWeights_go {F : Nat} : ∀ (k' : Nat) (a0 : Nat) (a1 : (Nat → Nat)) (a2 : Nat) (a3 : Nat) (a4 : Int32) (a5 : Int32) (a6 : Int64) (a7 : Int64) (a8 : Int32) (a9 : Int32) (a10 : mV), nnN (mX5_judgeWeights_go F k' a0 a1 a2 a3 a4 a5 a6 a7 a8 a9 a10) := by
  intro k'
  induction k' with
  | zero =>
    intros
    rw [mX5_judgeWeights_go]
    exact nnN.none
  | succ k' ih =>
    intros
    rw [mX5_judgeWeights_go]
    repeat' first
      | exact nnN.none
      | exact nnN.ret (by decide)
      | apply ih
      | refine nnN.ite ?_ ?_
      | refine nnN.N (fun _ => ?_)
      | (refine nnN.W (fun _ _ => ?_))
      | refine nnN.lt ?_
      | unfold mX5_judgeWeights_b0
      | unfold mX5_judgeWeights_b1
      | unfold mX5_judgeWeights_b2
theorem JX5_judgeWeights {F l1A l2A : Nat} {Ln : Nat → Nat} {V : mV} : nnN (mX5_judgeWeights F Ln l1A l2A V) := by
  unfold mX5_judgeWeights mX5_judgeWeights_s
  repeat' first
    | exact nnN.none
    | exact nnN.ret (by decide)
    | apply JX5_judgeWeights_go
    | refine nnN.ite ?_ ?_
    | refine nnN.N (fun _ => ?_)
    | (refine nnN.W (fun _ _ => ?_))
    | refine nnN.lt ?_
    | unfold mX5_judgeWeights_b0
    | unfold mX5_judgeWeights_b1
    | unfold mX5_judgeWeights_b2
theorem JX1_judgeTruths_go {F : Nat} : ∀ (k' : Nat) (a0 : Nat) (a1 : (Nat → Nat)) (a2 : Nat) (a3 : Nat) (a4 : Int32) (a5 : mV), nnW (mX1_judgeTruths_go F k' a0 a1 a2 a3 a4 a5) := by
  intro k'
  induction k' with
  | zero =>
    intros
    rw [mX1_judgeTruths_go]
    exact nnW.none
  | succ k' ih =>
    intros
    rw [mX1_judgeTruths_go]
    repeat' first
      | exact nnW.none
      | exact nnW.ret (by decide)
      | apply ih
      | refine nnW.ite ?_ ?_
      | refine nnW.N (fun _ => ?_)
      | (refine nnW.W (fun _ _ => ?_))
      | refine nnW.lt ?_
      | unfold mX1_judgeTruths_b0
theorem JX1_judgeTruths {F l1A l2A : Nat} {Ln : Nat → Nat} {V : mV} : nnW (mX1_judgeTruths F Ln l1A l2A V) := by
  unfold mX1_judgeTruths mX1_judgeTruths_s
  repeat' first
    | exact nnW.none
    | exact nnW.ret (by decide)
    | apply JX1_judgeTruths_go
    | refine nnW.ite ?_ ?_
    | refine nnW.N (fun _ => ?_)
    | (refine nnW.W (fun _ _ => ?_))
    | refine nnW.lt ?_
    | unfold mX1_judgeTruths_b0
theorem JX1_judgeTree_go {F : Nat} : ∀ (k' : Nat) (a0 : Nat) (a1 : (Nat → Nat)) (a2 : Nat) (a3 : Nat) (a4 : Int32) (a5 : Int32) (a6 : mV), nnW (mX1_judgeTree_go F k' a0 a1 a2 a3 a4 a5 a6) := by
  intro k'
  induction k' with
  | zero =>
    intros
    rw [mX1_judgeTree_go]
    exact nnW.none
  | succ k' ih =>
    intros
    rw [mX1_judgeTree_go]
    repeat' first
      | exact nnW.none
      | exact nnW.ret (by decide)
      | apply ih
      | refine nnW.ite ?_ ?_
      | refine nnW.N (fun _ => ?_)
      | (refine nnW.W (fun _ _ => ?_))
      | refine nnW.lt ?_
      | unfold mX1_judgeTree_b0
theorem JX1_judgeTree {F l1A l2A : Nat} {Ln : Nat → Nat} {V : mV} : nnW (mX1_judgeTree F Ln l1A l2A V) := by
  unfold mX1_judgeTree mX1_judgeTree_s
  repeat' first
    | exact nnW.none
    | exact nnW.ret (by decide)
    | apply JX1_judgeTree_go
    | refine nnW.ite ?_ ?_
    | refine nnW.N (fun _ => ?_)
    | (refine nnW.W (fun _ _ => ?_))
    | refine nnW.lt ?_
    | unfold mX1_judgeTree_b0
theorem JX8_judgeUnknowns_go {F : Nat} : ∀ (k' : Nat) (a0 : Nat) (a1 : (Nat → Nat)) (a2 : Nat) (a3 : Nat) (a4 : Int32) (a5 : Int64) (a6 : Int32) (a7 : mV), nnN (mX8_judgeUnknowns_go F k' a0 a1 a2 a3 a4 a5 a6 a7) := by
  intro k'
  induction k' with
  | zero =>
    intros
    rw [mX8_judgeUnknowns_go]
    exact nnN.none
  | succ k' ih =>
    intros
    rw [mX8_judgeUnknowns_go]
    repeat' first
      | exact nnN.none
      | exact nnN.ret (by decide)
      | apply ih
      | refine nnN.ite ?_ ?_
      | refine nnN.N (fun _ => ?_)
      | (refine nnN.W (fun _ _ => ?_))
      | refine nnN.lt ?_
      | unfold mX8_judgeUnknowns_b0
      | unfold mX8_judgeUnknowns_b1
theorem JX8_judgeUnknowns {F l1A l2A : Nat} {Ln : Nat → Nat} {V : mV} : nnN (mX8_judgeUnknowns F Ln l1A l2A V) := by
  unfold mX8_judgeUnknowns mX8_judgeUnknowns_s
  repeat' first
    | exact nnN.none
    | exact nnN.ret (by decide)
    | apply JX8_judgeUnknowns_go
    | refine nnN.ite ?_ ?_
    | refine nnN.N (fun _ => ?_)
    | (refine nnN.W (fun _ _ => ?_))
    | refine nnN.lt ?_
    | unfold mX8_judgeUnknowns_b0
    | unfold mX8_judgeUnknowns_b1
theorem JX8_judgeModulus {F l1A l2A : Nat} {Ln : Nat → Nat} {V : mV} : nnN (mX8_judgeModulus F Ln l1A l2A V) := by
  unfold mX8_judgeModulus
  repeat' first
    | exact nnN.none
    | exact nnN.ret (by decide)
    | fail
    | refine nnN.ite ?_ ?_
    | refine nnN.N (fun _ => ?_)
    | (refine nnN.W (fun _ _ => ?_))
    | refine nnN.lt ?_
theorem JX8_judgePrime {F l1A l2A : Nat} {Ln : Nat → Nat} {V : mV} : nnN (mX8_judgePrime F Ln l1A l2A V) := by
  unfold mX8_judgePrime
  repeat' first
    | exact nnN.none
    | exact nnN.ret (by decide)
    | fail
    | refine nnN.ite ?_ ?_
    | refine nnN.N (fun _ => ?_)
    | (refine nnN.W (fun _ _ => ?_))
    | refine nnN.lt ?_
theorem JX8_judgeProduct {F l1A l2A : Nat} {Ln : Nat → Nat} {V : mV} : nnN (mX8_judgeProduct F Ln l1A l2A V) := by
  unfold mX8_judgeProduct
  repeat' first
    | exact nnN.none
    | exact nnN.ret (by decide)
    | fail
    | refine nnN.ite ?_ ?_
    | refine nnN.N (fun _ => ?_)
    | (refine nnN.W (fun _ _ => ?_))
    | refine nnN.lt ?_
theorem JX8_judgeParts_go {F : Nat} : ∀ (k' : Nat) (a0 : Nat) (a1 : (Nat → Nat)) (a2 : Nat) (a3 : Int32) (a4 : mV), nnW (mX8_judgeParts_go F k' a0 a1 a2 a3 a4) := by
  intro k'
  induction k' with
  | zero =>
    intros
    rw [mX8_judgeParts_go]
    exact nnW.none
  | succ k' ih =>
    intros
    rw [mX8_judgeParts_go]
    repeat' first
      | exact nnW.none
      | exact nnW.ret (by decide)
      | apply ih
      | refine nnW.ite ?_ ?_
      | refine nnW.N (fun _ => ?_)
      | (refine nnW.W (fun _ _ => ?_))
      | refine nnW.lt ?_
      | unfold mX8_judgeParts_b0
theorem JX8_judgeParts {F l1A l2A : Nat} {Ln : Nat → Nat} {V : mV} : nnW (mX8_judgeParts F Ln l1A l2A V) := by
  unfold mX8_judgeParts mX8_judgeParts_s
  repeat' first
    | exact nnW.none
    | exact nnW.ret (by decide)
    | apply JX8_judgeParts_go
    | refine nnW.ite ?_ ?_
    | refine nnW.N (fun _ => ?_)
    | (refine nnW.W (fun _ _ => ?_))
    | refine nnW.lt ?_
    | unfold mX8_judgeParts_b0
theorem JX8_judgeSigns_go {F : Nat} : ∀ (k' : Nat) (a0 : Nat) (a1 : (Nat → Nat)) (a2 : Nat) (a3 : Nat) (a4 : Int32) (a5 : mV), nnW (mX8_judgeSigns_go F k' a0 a1 a2 a3 a4 a5) := by
  intro k'
  induction k' with
  | zero =>
    intros
    rw [mX8_judgeSigns_go]
    exact nnW.none
  | succ k' ih =>
    intros
    rw [mX8_judgeSigns_go]
    repeat' first
      | exact nnW.none
      | exact nnW.ret (by decide)
      | apply ih
      | refine nnW.ite ?_ ?_
      | refine nnW.N (fun _ => ?_)
      | (refine nnW.W (fun _ _ => ?_))
      | refine nnW.lt ?_
      | unfold mX8_judgeSigns_b0
theorem JX8_judgeSigns {F l1A l2A : Nat} {Ln : Nat → Nat} {V : mV} : nnW (mX8_judgeSigns F Ln l1A l2A V) := by
  unfold mX8_judgeSigns mX8_judgeSigns_s
  repeat' first
    | exact nnW.none
    | exact nnW.ret (by decide)
    | apply JX8_judgeSigns_go
    | refine nnW.ite ?_ ?_
    | refine nnW.N (fun _ => ?_)
    | (refine nnW.W (fun _ _ => ?_))
    | refine nnW.lt ?_
    | unfold mX8_judgeSigns_b0
theorem JX10_judgeItems_go {F : Nat} : ∀ (k' : Nat) (a0 : Nat) (a1 : (Nat → Nat)) (a2 : Nat) (a3 : Int32) (a4 : Int32) (a5 : Int32) (a6 : mV), nnW (mX10_judgeItems_go F k' a0 a1 a2 a3 a4 a5 a6) := by
  intro k'
  induction k' with
  | zero =>
    intros
    rw [mX10_judgeItems_go]
    exact nnW.none
  | succ k' ih =>
    intros
    rw [mX10_judgeItems_go]
    repeat' first
      | exact nnW.none
      | exact nnW.ret (by decide)
      | apply ih
      | refine nnW.ite ?_ ?_
      | refine nnW.N (fun _ => ?_)
      | (refine nnW.W (fun _ _ => ?_))
      | refine nnW.lt ?_
      | unfold mX10_judgeItems_b0
      | unfold mX10_judgeItems_b1
theorem JX10_judgeItems {F l1A l2A : Nat} {Ln : Nat → Nat} {V : mV} : nnW (mX10_judgeItems F Ln l1A l2A V) := by
  unfold mX10_judgeItems mX10_judgeItems_s
  repeat' first
    | exact nnW.none
    | exact nnW.ret (by decide)
    | apply JX10_judgeItems_go
    | refine nnW.ite ?_ ?_
    | refine nnW.N (fun _ => ?_)
    | (refine nnW.W (fun _ _ => ?_))
    | refine nnW.lt ?_
    | unfold mX10_judgeItems_b0
    | unfold mX10_judgeItems_b1
theorem JX10_judgeRows_go {F : Nat} : ∀ (k' : Nat) (a0 : Nat) (a1 : (Nat → Nat)) (a2 : Nat) (a3 : Int32) (a4 : Int32) (a5 : mV), nnW (mX10_judgeRows_go F k' a0 a1 a2 a3 a4 a5) := by
  intro k'
  induction k' with
  | zero =>
    intros
    rw [mX10_judgeRows_go]
    exact nnW.none
  | succ k' ih =>
    intros
    rw [mX10_judgeRows_go]
    repeat' first
      | exact nnW.none
      | exact nnW.ret (by decide)
      | apply ih
      | refine nnW.ite ?_ ?_
      | refine nnW.N (fun _ => ?_)
      | (refine nnW.W (fun _ _ => ?_))
      | refine nnW.lt ?_
      | unfold mX10_judgeRows_b0
      | unfold mX10_judgeRows_b1
theorem JX10_judgeRows {F l1A l2A : Nat} {Ln : Nat → Nat} {V : mV} : nnW (mX10_judgeRows F Ln l1A l2A V) := by
  unfold mX10_judgeRows mX10_judgeRows_s
  repeat' first
    | exact nnW.none
    | exact nnW.ret (by decide)
    | apply JX10_judgeRows_go
    | refine nnW.ite ?_ ?_
    | refine nnW.N (fun _ => ?_)
    | (refine nnW.W (fun _ _ => ?_))
    | refine nnW.lt ?_
    | unfold mX10_judgeRows_b0
    | unfold mX10_judgeRows_b1
theorem JX10_judgeSteps_go {F : Nat} : ∀ (k' : Nat) (a0 : Nat) (a1 : (Nat → Nat)) (a2 : Nat) (a3 : Nat) (a4 : Int32) (a5 : Int32) (a6 : mV), nnW (mX10_judgeSteps_go F k' a0 a1 a2 a3 a4 a5 a6) := by
  intro k'
  induction k' with
  | zero =>
    intros
    rw [mX10_judgeSteps_go]
    exact nnW.none
  | succ k' ih =>
    intros
    rw [mX10_judgeSteps_go]
    repeat' first
      | exact nnW.none
      | exact nnW.ret (by decide)
      | apply ih
      | refine nnW.ite ?_ ?_
      | refine nnW.N (fun _ => ?_)
      | (refine nnW.W (fun _ _ => ?_))
      | refine nnW.lt ?_
      | unfold mX10_judgeSteps_b0
theorem JX10_judgeSteps {F l1A l2A : Nat} {Ln : Nat → Nat} {V : mV} : nnW (mX10_judgeSteps F Ln l1A l2A V) := by
  unfold mX10_judgeSteps mX10_judgeSteps_s
  repeat' first
    | exact nnW.none
    | exact nnW.ret (by decide)
    | apply JX10_judgeSteps_go
    | refine nnW.ite ?_ ?_
    | refine nnW.N (fun _ => ?_)
    | (refine nnW.W (fun _ _ => ?_))
    | refine nnW.lt ?_
    | unfold mX10_judgeSteps_b0
theorem JX10_judgeClosure_go {F : Nat} : ∀ (k' : Nat) (a0 : Nat) (a1 : (Nat → Nat)) (a2 : Nat) (a3 : Nat) (a4 : Int32) (a5 : Int32) (a6 : mV), nnW (mX10_judgeClosure_go F k' a0 a1 a2 a3 a4 a5 a6) := by
  intro k'
  induction k' with
  | zero =>
    intros
    rw [mX10_judgeClosure_go]
    exact nnW.none
  | succ k' ih =>
    intros
    rw [mX10_judgeClosure_go]
    repeat' first
      | exact nnW.none
      | exact nnW.ret (by decide)
      | apply ih
      | refine nnW.ite ?_ ?_
      | refine nnW.N (fun _ => ?_)
      | (refine nnW.W (fun _ _ => ?_))
      | refine nnW.lt ?_
      | unfold mX10_judgeClosure_b0
      | unfold mX10_judgeClosure_b1
theorem JX10_judgeClosure {F l1A l2A : Nat} {Ln : Nat → Nat} {V : mV} : nnW (mX10_judgeClosure F Ln l1A l2A V) := by
  unfold mX10_judgeClosure mX10_judgeClosure_s
  repeat' first
    | exact nnW.none
    | exact nnW.ret (by decide)
    | apply JX10_judgeClosure_go
    | refine nnW.ite ?_ ?_
    | refine nnW.N (fun _ => ?_)
    | (refine nnW.W (fun _ _ => ?_))
    | refine nnW.lt ?_
    | unfold mX10_judgeClosure_b0
    | unfold mX10_judgeClosure_b1
theorem JX6_judgeLikeness_go {F : Nat} : ∀ (k' : Nat) (a0 : Nat) (a1 : (Nat → Nat)) (a2 : Nat) (a3 : Nat) (a4 : Int32) (a5 : Int32) (a6 : mV), nnW (mX6_judgeLikeness_go F k' a0 a1 a2 a3 a4 a5 a6) := by
  intro k'
  induction k' with
  | zero =>
    intros
    rw [mX6_judgeLikeness_go]
    exact nnW.none
  | succ k' ih =>
    intros
    rw [mX6_judgeLikeness_go]
    repeat' first
      | exact nnW.none
      | exact nnW.ret (by decide)
      | apply ih
      | refine nnW.ite ?_ ?_
      | refine nnW.N (fun _ => ?_)
      | (refine nnW.W (fun _ _ => ?_))
      | refine nnW.lt ?_
      | unfold mX6_judgeLikeness_b0
      | unfold mX6_judgeLikeness_b1
      | unfold mX6_judgeLikeness_b2
      | unfold mX6_judgeLikeness_b3
theorem JX6_judgeLikeness {F l1A l2A : Nat} {Ln : Nat → Nat} {V : mV} : nnW (mX6_judgeLikeness F Ln l1A l2A V) := by
  unfold mX6_judgeLikeness mX6_judgeLikeness_s
  repeat' first
    | exact nnW.none
    | exact nnW.ret (by decide)
    | apply JX6_judgeLikeness_go
    | refine nnW.ite ?_ ?_
    | refine nnW.N (fun _ => ?_)
    | (refine nnW.W (fun _ _ => ?_))
    | refine nnW.lt ?_
    | unfold mX6_judgeLikeness_b0
    | unfold mX6_judgeLikeness_b1
    | unfold mX6_judgeLikeness_b2
    | unfold mX6_judgeLikeness_b3
theorem JX6_judgeLetters_go {F : Nat} : ∀ (k' : Nat) (a0 : Nat) (a1 : (Nat → Nat)) (a2 : Nat) (a3 : Int32) (a4 : Int32) (a5 : Int32) (a6 : Int32) (a7 : mV), nnW (mX6_judgeLetters_go F k' a0 a1 a2 a3 a4 a5 a6 a7) := by
  intro k'
  induction k' with
  | zero =>
    intros
    rw [mX6_judgeLetters_go]
    exact nnW.none
  | succ k' ih =>
    intros
    rw [mX6_judgeLetters_go]
    repeat' first
      | exact nnW.none
      | exact nnW.ret (by decide)
      | apply ih
      | refine nnW.ite ?_ ?_
      | refine nnW.N (fun _ => ?_)
      | (refine nnW.W (fun _ _ => ?_))
      | refine nnW.lt ?_
      | unfold mX6_judgeLetters_b0
      | unfold mX6_judgeLetters_b1
theorem JX6_judgeLetters {F l1A l2A : Nat} {Ln : Nat → Nat} {V : mV} : nnW (mX6_judgeLetters F Ln l1A l2A V) := by
  unfold mX6_judgeLetters mX6_judgeLetters_s
  repeat' first
    | exact nnW.none
    | exact nnW.ret (by decide)
    | apply JX6_judgeLetters_go
    | refine nnW.ite ?_ ?_
    | refine nnW.N (fun _ => ?_)
    | (refine nnW.W (fun _ _ => ?_))
    | refine nnW.lt ?_
    | unfold mX6_judgeLetters_b0
    | unfold mX6_judgeLetters_b1
theorem JX6_judgeGame_go {F : Nat} : ∀ (k' : Nat) (a0 : Nat) (a1 : (Nat → Nat)) (a2 : Nat) (a3 : Nat) (a4 : Int32) (a5 : Int32) (a6 : mV), nnW (mX6_judgeGame_go F k' a0 a1 a2 a3 a4 a5 a6) := by
  intro k'
  induction k' with
  | zero =>
    intros
    rw [mX6_judgeGame_go]
    exact nnW.none
  | succ k' ih =>
    intros
    rw [mX6_judgeGame_go]
    repeat' first
      | exact nnW.none
      | exact nnW.ret (by decide)
      | apply ih
      | refine nnW.ite ?_ ?_
      | refine nnW.N (fun _ => ?_)
      | (refine nnW.W (fun _ _ => ?_))
      | refine nnW.lt ?_
      | unfold mX6_judgeGame_b0
theorem JX6_judgeGame {F l1A l2A : Nat} {Ln : Nat → Nat} {V : mV} {l3I : Int32} : nnW (mX6_judgeGame F Ln l1A l2A l3I V) := by
  unfold mX6_judgeGame mX6_judgeGame_s
  repeat' first
    | exact nnW.none
    | exact nnW.ret (by decide)
    | apply JX6_judgeGame_go
    | refine nnW.ite ?_ ?_
    | refine nnW.N (fun _ => ?_)
    | (refine nnW.W (fun _ _ => ?_))
    | refine nnW.lt ?_
    | unfold mX6_judgeGame_b0
theorem J_judge {F l1A l2A : Nat} {Ln : Nat → Nat} {V : mV} {l3I : Int32} : nnW (mX4_judge F Ln l1A l2A l3I V) := by
  have w : ∀ {o : Option (Int32 × mV)}, nnW o → nnW (mBW o fun v V5 => some (v, V5)) := fun h v V1 e => by
    obtain ⟨x, y, e1, e⟩ := mBW_some e
    cases e
    exact h _ _ e1
  have n : ∀ {o : Option Int32} {V : mV}, nnN o → nnW (mBN o fun v => some (v, V)) := fun h v V1 e => by
    obtain ⟨x, e1, e⟩ := mBN_some e
    cases e
    exact h _ e1
  unfold mX4_judge
  exact nnW.ite (nnW.ite (w JX7_judgeNodes) (w JX7_judgePairing)) (nnW.ite (nnW.ite (w JX7_judgeBar) (w JX7_judgeFlow)) (nnW.ite (nnW.ite (w JX2_judgeCore) (w JX2_judgeDrawing)) (nnW.ite (nnW.ite (n JX5_judgeWeights) (n JX5_judgeUnknowns)) (nnW.ite (nnW.ite (w JX1_judgeTree) (w JX1_judgeTruths)) (nnW.ite (nnW.ite (n JX8_judgeModulus) (n JX8_judgeUnknowns)) (nnW.ite (nnW.ite (n JX8_judgeProduct) (n JX8_judgePrime)) (nnW.ite (nnW.ite (w JX8_judgeSigns) (w JX8_judgeParts)) (nnW.ite (nnW.ite (w JX10_judgeRows) (w JX10_judgeItems)) (nnW.ite (nnW.ite (w JX10_judgeClosure) (w JX10_judgeSteps)) (nnW.ite (nnW.ite (w JX6_judgeLetters) (w JX6_judgeLikeness)) (nnW.ite (w JX6_judgeGame) (w JX6_judgeGame))))))))))))
end
