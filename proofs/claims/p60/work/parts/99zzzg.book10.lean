/-! THE BOOK: what an item must be. -/
section
def tfP (v : Int32) (C : Prop) : Prop := (v = 0 ∨ v = 1) ∧ (v ≠ 0 ↔ C)
theorem tf1 {C : Prop} (h : C) : tfP 1 C := ⟨Or.inr rfl, fun _ => h, fun _ => by decide⟩
theorem tf0 {C : Prop} (h : ¬ C) : tfP 0 C := ⟨Or.inl rfl, fun c => absurd rfl c, fun c => absurd c h⟩
theorem tfP.iff {v : Int32} {C D : Prop} (h : tfP v C) (e : C ↔ D) : tfP v D := ⟨h.1, h.2.trans e⟩
theorem T_within {F : Nat} {x lo hi : Int32} : mTo (mX4_isWithin F x lo hi) (fun v => tfP v (lo.toInt ≤ x.toInt ∧ x.toInt ≤ hi.toInt)) := by
  unfold mX4_isWithin
  refine mTo.ite (fun h => mTo.ret (tf0 fun c => ?_)) (fun h => mTo.ite (fun h2 => mTo.ret (tf0 fun c => ?_)) (fun h2 => mTo.ret (tf1 ?_)))
  · have := i32lt.mp h
    omega
  · have := i32lt.mp h2
    omega
  · rw [i32lt] at h h2
    omega
theorem nI_p1 {s : Nat} (h0 : 0 < s) (h : s < 2 ^ 20) : (nI s - 1).toInt = (s : Int) - 1 := by
  obtain ⟨t, rfl⟩ : ∃ t, s = t + 1 := ⟨s - 1, by omega⟩
  rw [nI_pred, nI_toInt (by omega)]
  omega
theorem in_iff {x : Int32} {s : Nat} (h : s < 2 ^ 20) : (0 ≤ x.toInt ∧ x.toInt ≤ (s : Int) - 1) ↔ ∃ a, a < s ∧ x = nI a := by
  constructor
  · rintro ⟨h1, h2⟩
    obtain ⟨a, e, a1⟩ := i32_nI h1
    rw [e, nI_toInt a1] at h2
    exact ⟨a, by omega, e⟩
  · rintro ⟨a, a1, e⟩
    rw [e, nI_toInt (by omega)]
    omega
theorem int_m1 : (-1 : Int32).toInt = -1 := by decide
theorem ik0 {k s i : Nat} {x : Nat → Int32} (h : k = 0 ∨ k = 2) : itK k s i x ↔ ∃ a c, x 0 = nI a ∧ x 1 = nI c ∧ a < s ∧ c < s ∧ a ≠ c := by
  unfold itK
  rcases h with e | e <;> subst e
  · exact ⟨fun h => h.1 (Or.inl rfl), fun h => ⟨fun _ => h, fun z => absurd z (by decide), fun z => absurd z (by decide), fun z => absurd z (by decide), fun z => absurd z (by decide), fun z => absurd z (by decide), fun z => absurd z (by decide), fun z => absurd z (by decide), fun z => absurd z (by decide), fun z => absurd z (by decide)⟩⟩
  · exact ⟨fun h => h.1 (Or.inr rfl), fun h => ⟨fun _ => h, fun z => absurd z (by decide), fun z => absurd z (by decide), fun z => absurd z (by decide), fun z => absurd z (by decide), fun z => absurd z (by decide), fun z => absurd z (by decide), fun z => absurd z (by decide), fun z => absurd z (by decide), fun z => absurd z (by decide)⟩⟩
theorem ik1 {s i : Nat} {x : Nat → Int32} : itK 1 s i x ↔ ∃ a c f, x 0 = nI a ∧ x 1 = nI c ∧ x 2 = nI f ∧ a < s ∧ c < s ∧ a ≠ c ∧ f ≤ 6 := by
  unfold itK
  exact ⟨fun h => h.2.1 rfl, fun h => ⟨fun z => absurd z (by decide), fun _ => h, fun z => absurd z (by decide), fun z => absurd z (by decide), fun z => absurd z (by decide), fun z => absurd z (by decide), fun z => absurd z (by decide), fun z => absurd z (by decide), fun z => absurd z (by decide), fun z => absurd z (by decide)⟩⟩
theorem ik3 {s i : Nat} {x : Nat → Int32} : itK 3 s i x ↔ (∀ j, j < s → (x j).toInt.natAbs ≤ 9) ∧ (x 4).toInt.natAbs ≤ 60 := by
  unfold itK
  exact ⟨fun h => h.2.2.1 rfl, fun h => ⟨fun z => absurd z (by decide), fun z => absurd z (by decide), fun _ => h, fun z => absurd z (by decide), fun z => absurd z (by decide), fun z => absurd z (by decide), fun z => absurd z (by decide), fun z => absurd z (by decide), fun z => absurd z (by decide), fun z => absurd z (by decide)⟩⟩
theorem ik4 {s i : Nat} {x : Nat → Int32} : itK 4 s i x ↔ (∀ j, j < 3 → (x j).toInt.natAbs ≤ s) ∧ ¬ (x 0 = 0 ∧ x 1 = 0 ∧ x 2 = 0) := by
  unfold itK
  exact ⟨fun h => h.2.2.2.1 rfl, fun h => ⟨fun z => absurd z (by decide), fun z => absurd z (by decide), fun z => absurd z (by decide), fun _ => h, fun z => absurd z (by decide), fun z => absurd z (by decide), fun z => absurd z (by decide), fun z => absurd z (by decide), fun z => absurd z (by decide), fun z => absurd z (by decide)⟩⟩
theorem ik5 {s i : Nat} {x : Nat → Int32} : itK 5 s i x ↔ (∀ j, j < s → (x j).toInt.natAbs ≤ 6) ∧ (x 4).toInt.natAbs ≤ 20 := by
  unfold itK
  exact ⟨fun h => h.2.2.2.2.1 rfl, fun h => ⟨fun z => absurd z (by decide), fun z => absurd z (by decide), fun z => absurd z (by decide), fun z => absurd z (by decide), fun _ => h, fun z => absurd z (by decide), fun z => absurd z (by decide), fun z => absurd z (by decide), fun z => absurd z (by decide), fun z => absurd z (by decide)⟩⟩
theorem ik7 {s i : Nat} {x : Nat → Int32} : itK 7 s i x ↔ ∀ j, j < 4 → (x j).toInt.natAbs ≤ 7 := by
  unfold itK
  exact ⟨fun h => h.2.2.2.2.2.1 rfl, fun h => ⟨fun z => absurd z (by decide), fun z => absurd z (by decide), fun z => absurd z (by decide), fun z => absurd z (by decide), fun z => absurd z (by decide), fun _ => h, fun z => absurd z (by decide), fun z => absurd z (by decide), fun z => absurd z (by decide), fun z => absurd z (by decide)⟩⟩
theorem ik8 {s i : Nat} {x : Nat → Int32} : itK 8 s i x ↔ (∀ j, j < s → j < 5 → ∃ v, v < s ∧ x j = nI v) ∧ ∀ i j, i < j → j < s → j < 5 → x i ≠ x j := by
  unfold itK
  exact ⟨fun h => h.2.2.2.2.2.2.1 rfl, fun h => ⟨fun z => absurd z (by decide), fun z => absurd z (by decide), fun z => absurd z (by decide), fun z => absurd z (by decide), fun z => absurd z (by decide), fun z => absurd z (by decide), fun _ => h, fun z => absurd z (by decide), fun z => absurd z (by decide), fun z => absurd z (by decide)⟩⟩
theorem ik9 {s i : Nat} {x : Nat → Int32} : itK 9 s i x ↔ ∃ a c, x 0 = nI a ∧ x 1 = nI c ∧ 0 < a ∧ 0 < c ∧ a < 256 ∧ c < 256 ∧ (1 ≤ i → a < 32 ∧ c < 32) := by
  unfold itK
  exact ⟨fun h => h.2.2.2.2.2.2.2.1 rfl, fun h => ⟨fun z => absurd z (by decide), fun z => absurd z (by decide), fun z => absurd z (by decide), fun z => absurd z (by decide), fun z => absurd z (by decide), fun z => absurd z (by decide), fun z => absurd z (by decide), fun _ => h, fun z => absurd z (by decide), fun z => absurd z (by decide)⟩⟩
theorem ik10 {s i : Nat} {x : Nat → Int32} : itK 10 s i x ↔ ∃ a c f, x 0 = nI a ∧ x 1 = nI c ∧ x 2 = nI f ∧ a < s ∧ c < s ∧ f ≤ 1 := by
  unfold itK
  exact ⟨fun h => h.2.2.2.2.2.2.2.2.1 rfl, fun h => ⟨fun z => absurd z (by decide), fun z => absurd z (by decide), fun z => absurd z (by decide), fun z => absurd z (by decide), fun z => absurd z (by decide), fun z => absurd z (by decide), fun z => absurd z (by decide), fun z => absurd z (by decide), fun _ => h, fun z => absurd z (by decide)⟩⟩
theorem ik11 {s i : Nat} {x : Nat → Int32} : itK 11 s i x ↔ ∃ o w a, x 0 = nI o ∧ x 1 = nI w ∧ x 2 = nI a ∧ o ≤ 1 ∧ w ≤ 5 ∧ a < s ∧ ∀ j, j < 2 → x (3 + j) = -1 ∨ ∃ u, u < s ∧ x (3 + j) = nI u := by
  unfold itK
  exact ⟨fun h => h.2.2.2.2.2.2.2.2.2 rfl, fun h => ⟨fun z => absurd z (by decide), fun z => absurd z (by decide), fun z => absurd z (by decide), fun z => absurd z (by decide), fun z => absurd z (by decide), fun z => absurd z (by decide), fun z => absurd z (by decide), fun z => absurd z (by decide), fun z => absurd z (by decide), fun _ => h⟩⟩
theorem ik6 {s i : Nat} {x : Nat → Int32} : itK 6 s i x := by
  unfold itK
  exact ⟨fun z => absurd z (by decide), fun z => absurd z (by decide), fun z => absurd z (by decide), fun z => absurd z (by decide), fun z => absurd z (by decide), fun z => absurd z (by decide), fun z => absurd z (by decide), fun z => absurd z (by decide), fun z => absurd z (by decide), fun z => absurd z (by decide)⟩
theorem T_unlike {F s : Nat} {V : mV} (h0 : 0 < s) (hs : s < 2 ^ 20) : mTo (mX4_areUnlikeNodes F 12 (nI s - 1) V) (fun v => tfP v (∃ a c, V.rI 12 0 = nI a ∧ V.rI 12 1 = nI c ∧ a < s ∧ c < s ∧ a ≠ c)) := by
  have e0 : (0 : Int32).toInt = 0 := rfl
  unfold mX4_areUnlikeNodes
  refine mTo.gd (by decide) (mTo.N (T_within (F := F)) (fun v _ q => ?_))
  rw [e0, nI_p1 h0 hs, in_iff hs] at q
  have q : tfP v (∃ a, a < s ∧ V.rI 12 0 = nI a) := q
  refine mTo.tf q (fun hc => mTo.ret (tf0 fun ⟨a, c, x0, _, a1, _⟩ => hc ⟨a, a1, x0⟩)) (fun hc => mTo.gd (by decide) (mTo.N (T_within (F := F)) (fun v _ q => ?_)))
  rw [e0, nI_p1 h0 hs, in_iff hs] at q
  have q : tfP v (∃ a, a < s ∧ V.rI 12 1 = nI a) := q
  obtain ⟨a, a1, x0⟩ := hc
  refine mTo.tf q (fun hc => mTo.ret (tf0 fun ⟨_, c, _, x1, _, c1, _⟩ => hc ⟨c, c1, x1⟩)) (fun hc => mTo.gd (by decide) (mTo.gd (by decide) ?_))
  obtain ⟨c, c1, x1⟩ := hc
  show mTo (if V.rI 12 0 = V.rI 12 1 then some (0 : Int32) else some 1) _
  refine mTo.ite (fun z => mTo.ret (tf0 fun ⟨a', c', y0, y1, _, _, ne⟩ => ?_)) (fun z => mTo.ret (tf1 ⟨a, c, x0, x1, a1, c1, fun e => z (by rw [x0, x1, e])⟩))
  rw [y0, y1] at z
  exact ne ((nI_eq (by rw [y0] at x0; have := x0; exact Nat.lt_of_not_le fun c => by omega) (by omega)).mp z)
end
