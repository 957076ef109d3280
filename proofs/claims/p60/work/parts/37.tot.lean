/-! TOTAL CORRECTNESS of the plain functions: rules; the first of the law's own. -/
section
/-- it comes to its end, with Q -/
def mTo {α : Type} (o : Option α) (Q : α → Prop) : Prop := ∃ v, o = some v ∧ Q v
theorem mTo.mono {α : Type} {o : Option α} {Q R : α → Prop} (h : mTo o Q) (k : ∀ v, Q v → R v) : mTo o R := by
  obtain ⟨v, e, q⟩ := h
  exact ⟨v, e, k v q⟩
theorem mTo.ret {α : Type} {v : α} {Q : α → Prop} (h : Q v) : mTo (some v) Q := ⟨v, rfl, h⟩
theorem mTo.lt {α β : Type} {v : α} {f : α → Option β} {Q : β → Prop} (h : mTo (f v) Q) : mTo (mLt v f) Q := h
theorem mTo.N {α β : Type} {o : Option α} {f : α → Option β} {Q : α → Prop} {R : β → Prop} (h : mTo o Q) (k : ∀ v, o = some v → Q v → mTo (f v) R) : mTo (mBN o f) R := by
  obtain ⟨v, e, q⟩ := h
  have := k v e q
  unfold mBN
  rw [e]
  exact this
theorem mTo.W {α β γ : Type} {o : Option (α × β)} {f : α → β → Option γ} {Q : α × β → Prop} {R : γ → Prop} (h : mTo o Q) (k : ∀ a b, o = some (a, b) → Q (a, b) → mTo (f a b) R) : mTo (mBW o f) R := by
  obtain ⟨⟨a, b⟩, e, q⟩ := h
  have := k a b e q
  unfold mBW
  rw [e]
  exact this
theorem mTo.A {α β γ δ : Type} {o : Option (α × β × γ)} {f : α → β → γ → Option δ} {Q : α × β × γ → Prop} {R : δ → Prop} (h : mTo o Q) (k : ∀ a b c, o = some (a, b, c) → Q (a, b, c) → mTo (f a b c) R) : mTo (mBA o f) R := by
  obtain ⟨⟨a, b, c⟩, e, q⟩ := h
  have := k a b c e q
  unfold mBA
  rw [e]
  exact this
theorem mTo.B {α δ : Type} {o : Option (mO α)} {f : α → (Nat → Nat) → mV → Option δ} {g : String → (Nat → Nat) → mV → Option δ} {Q : mO α → Prop} {R : δ → Prop} (h : mTo o Q) (k1 : ∀ a L V, o = some (.inr a, L, V) → Q (.inr a, L, V) → mTo (f a L V) R) (k2 : ∀ e L V, o = some (.inl e, L, V) → Q (.inl e, L, V) → mTo (g e L V) R) : mTo (mBT o f g) R := by
  obtain ⟨⟨a, b, c⟩, e, q⟩ := h
  unfold mBT
  rw [e]
  cases a with
  | inl x => exact k2 x b c e q
  | inr x => exact k1 x b c e q
theorem mTo.th {α : Type} {Ln : Nat → Nat} {e : String} {V : mV} {Q : mO α → Prop} (h : Ln 3000 < 5000) (q : Q (.inl e, va_up Ln 3000 (Ln 3000 + 1), V)) : mTo (mTh Ln e V) Q := by
  unfold mTh
  rw [if_pos h]
  exact ⟨_, rfl, q⟩
theorem mTo.ite {α : Type} {c : Prop} [Decidable c] {a b : Option α} {Q : α → Prop} (h1 : c → mTo a Q) (h2 : ¬ c → mTo b Q) : mTo (if c then a else b) Q := by
  by_cases h : c
  · rw [if_pos h]
    exact h1 h
  · rw [if_neg h]
    exact h2 h
theorem mTo.gd {α : Type} {c : Prop} [Decidable c] {b : Option α} {Q : α → Prop} (h : ¬ c) (k : mTo b Q) : mTo (if c then none else b) Q := by
  rw [if_neg h]
  exact k
theorem i32c {x : Int32} (h : 0 ≤ x.toInt) : x.toNatClampNeg = x.toInt.toNat := by
  rfl
theorem i32ofNat {n : Nat} (h : n < 2 ^ 31) : (Int32.ofNat n).toInt = n := nI_toInt h
theorem i32and (x : Int32) : 0 ≤ (x &&& (2147483647 : Int32)).toInt := by
  obtain ⟨j, hj, e⟩ := pk_andE x (m := 2147483647) 31 (by decide)
  rw [e, show (nI j).toInt = j from i32ofNat hj]
  omega
theorem i32rem {x y : Int32} (h : 0 ≤ x.toInt) : (x % y).toInt = x.toInt % y.toInt := by rw [Int32.toInt_mod, Int.tmod_eq_emod_of_nonneg h]
theorem T_cell {G : wkG} {F : Nat} {i : Int32} (hL : G.1 9 ≤ 260) (h0 : 0 ≤ i.toInt) : mTo (mL_cell G F i) (fun _ => True) := by
  unfold mL_cell
  refine mTo.ite (fun _ => mTo.ret trivial) (fun h => mTo.gd ?_ (mTo.ret trivial))
  have h1 : i.toInt < (Int32.ofNat (G.1 9)).toInt := by
    have := Int32.not_le.mp h
    exact Int32.lt_iff_toInt_lt.mp this
  rw [i32ofNat (by omega)] at h1
  rintro (z | z)
  · have := Int32.lt_iff_toInt_lt.mp z
    have e0 : (0 : Int32).toInt = 0 := rfl
    omega
  · rw [i32c h0] at z
    omega
theorem T_chosen {G : wkG} {F : Nat} {x n : Int32} (hn : 0 < n.toInt) : mTo (mL_chosen G F x n) (fun v => 0 ≤ v.toInt ∧ v.toInt < n.toInt) := by
  unfold mL_chosen
  refine mTo.gd (fun z => ?_) (mTo.ret ?_)
  · subst z
    exact absurd hn (by decide)
  · rw [irem_eq_mod, i32rem (i32and x)]
    exact ⟨Int.emod_nonneg _ (by omega), Int.emod_lt_of_pos _ hn⟩
theorem T_drawn {G : wkG} {F : Nat} {a n : Int32} (hL : G.1 9 ≤ 260) (ha : 0 ≤ a.toInt) (hn : 0 < n.toInt) : mTo (mL_drawn G F a n) (fun v => 0 ≤ v.toInt ∧ v.toInt < n.toInt) := by
  unfold mL_drawn
  refine mTo.N (T_cell hL ?_) (fun v _ _ => mTo.N (T_chosen hn) (fun w _ hw => mTo.ret hw))
  rw [irem_eq_mod, i32rem ha]
  exact Int.emod_nonneg _ (by decide)
end
