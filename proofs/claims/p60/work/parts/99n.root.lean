/-! THE PURE PART, roots: the chain, reckoned in whole numbers. -/
section
def sm62 (x : Int) : Bool := Nat.blt x.natAbs 4611686018427387904
def gZ (l : List Int) (i : Nat) : Int := l.getD i 0
def dvI (t : Int) (b : List Int) (s : Nat) : Nat → List Int → List Int
  | 0, L => L
  | j + 1, L => (dvI t b s j L).set (s + j) (gZ L (s + j) - t * gZ b j)
def mulZ (h : Int) (L : List Int) : List Int := [gZ L 0 * h, gZ L 1 * h, gZ L 2 * h, gZ L 3 * h]
def dwS (h : Int) (b : List Int) (bd : Nat) : Nat → List Int → List Int → Option (List Int × List Int)
  | 0, L, O => some (L, O)
  | s + 1, L, O => if sm62 (gZ L (s + bd) * h.natAbs) = true then dwS h b bd s (dvI ((gZ L (s + bd) * h.natAbs).tdiv h) b s (bd + 1) (mulZ h.natAbs L)) ((mulZ h.natAbs O).set s ((gZ L (s + bd) * h.natAbs).tdiv h)) else none
def sm4 (L : List Int) : Bool := sm62 (gZ L 0) && sm62 (gZ L 1) && sm62 (gZ L 2) && sm62 (gZ L 3)
def dvZ (a b : List Int) (ad bd : Nat) : Option (List Int × List Int) := dwS (gZ b bd) b bd (ad - bd + 1) a [0, 0, 0, 0]
/-- 1 more than the degree, 0 of nothing -/
def dgZ (L : List Int) : Nat := if gZ L 3 ≠ 0 then 4 else if gZ L 2 ≠ 0 then 3 else if gZ L 1 ≠ 0 then 2 else if gZ L 0 ≠ 0 then 1 else 0
def gcZ (L : List Int) : Nat := Nat.gcd (Nat.gcd (Nat.gcd (gZ L 0).natAbs (gZ L 1).natAbs) (gZ L 2).natAbs) (gZ L 3).natAbs
def frZ (L : List Int) : List Int := if gcZ L ≤ 1 then L else [(gZ L 0).tdiv (gcZ L), (gZ L 1).tdiv (gcZ L), (gZ L 2).tdiv (gcZ L), (gZ L 3).tdiv (gcZ L)]
def ngZ (L : List Int) : List Int := [-gZ L 0, -gZ L 1, -gZ L 2, -gZ L 3]
/-- what follows two of a chain -/
def ccZ : Nat → List Int → Nat → List Int → Nat → Option (List (List Int × Nat))
  | 0, _, _, _, _ => some []
  | f + 1, a, ad, b, bd => if bd = 0 then some [] else
    match dvZ a b ad bd with
    | none => none
    | some (L, _) => if sm4 L = true then (match dgZ L with
      | 0 => some []
      | nd + 1 => match ccZ f b bd (frZ (ngZ L)) nd with
        | none => none
        | some r => some ((frZ (ngZ L), nd) :: r)) else none
def drZ (a : List Int) : List Int := frZ [gZ a 1, 2 * gZ a 2, 3 * gZ a 3, 0]
def chZ (a : List Int) (ad : Nat) : Option (List (List Int × Nat)) := if ad = 0 then some [(a, 0)] else
  match ccZ 3 a ad (drZ a) (ad - 1) with
  | none => none
  | some r => some ((a, ad) :: (drZ a, ad - 1) :: r)
def lsZ : List (List Int × Nat) → List Int × Nat
  | [] => ([], 0)
  | [x] => x
  | _ :: y :: r => lsZ (y :: r)
def fsZ (a : List Int) (ad : Nat) (b : List Int) (bd : Nat) : Option (List Int × Nat) :=
  match dvZ a b ad bd with
  | none => none
  | some (_, O) => if sm4 O = true then some (frZ (mulZ (if gZ O (dgZ O - 1) < 0 then -1 else 1) O), dgZ O - 1) else none
def bcZ (a : List Int) : Option (List (List Int × Nat)) :=
  match dgZ a with
  | 0 => some []
  | ad + 1 => match chZ a ad with
    | none => none
    | some ch => match fsZ a ad (lsZ ch).1 (lsZ ch).2 with
      | none => none
      | some (p, pd) => chZ p pd
/-- the chain of a plain polynomial, as its numbers tell -/
def Pz (p : List Int) : Int := gZ p 2 * gZ p 2 - 3 * gZ p 3 * gZ p 1
def Qz (p : List Int) : Int := 2 * gZ p 2 * gZ p 2 * gZ p 2 - 9 * gZ p 3 * gZ p 2 * gZ p 1 + 27 * gZ p 3 * gZ p 3 * gZ p 0
def dlt (p : List Int) : Int := 4 * Pz p * Pz p * Pz p - Qz p * Qz p
def dqz (p : List Int) : Int := gZ p 1 * gZ p 1 - 4 * gZ p 2 * gZ p 0
def sml (m : Nat) (l : List Int) : Prop := ∀ k, k < 4 → (gZ l k).natAbs ≤ m
def ok1 (ch : List (List Int × Nat)) : Prop := ∃ p u, ch = [(p, 1), (u, 0)] ∧ 0 < gZ p 1 ∧ 0 < gZ u 0 ∧ sml 1048576 p ∧ sml 1048576 u
def ok2 (ch : List (List Int × Nat)) : Prop := ∃ p u v, ch = [(p, 2), (u, 1), (v, 0)] ∧ 0 < gZ p 2 ∧ gZ p 2 ≤ 4000 ∧ 0 < gZ u 1 ∧ gZ u 1 * gZ p 1 = gZ u 0 * (2 * gZ p 2) ∧ 0 < gZ v 0 * dqz p ∧ sml 1048576 p ∧ sml 1048576 u ∧ sml 1048576 v
def ok3 (ch : List (List Int × Nat)) : Prop := ∃ p u v w, ch = [(p, 3), (u, 2), (v, 1), (w, 0)] ∧ 0 < gZ p 3 ∧ 0 < gZ u 2 ∧ gZ u 2 * (2 * gZ p 2) = gZ u 1 * (3 * gZ p 3) ∧ gZ u 2 * gZ p 1 = gZ u 0 * (3 * gZ p 3) ∧ 0 < gZ v 1 * Pz p ∧ gZ v 1 * (2 * Pz p * gZ p 2 - Qz p) = gZ v 0 * (6 * gZ p 3 * Pz p) ∧ 0 < gZ w 0 * dlt p ∧ sml 7 p ∧ sml 1048576 u ∧ sml 1048576 v ∧ sml 1048576 w
def ok4 (ch : List (List Int × Nat)) : Prop := ∃ p u v, ch = [(p, 3), (u, 2), (v, 0)] ∧ 0 < gZ p 3 ∧ 0 < gZ u 2 ∧ gZ u 2 * (2 * gZ p 2) = gZ u 1 * (3 * gZ p 3) ∧ gZ u 2 * gZ p 1 = gZ u 0 * (3 * gZ p 3) ∧ Pz p = 0 ∧ gZ v 0 * Qz p < 0 ∧ sml 7 p ∧ sml 1048576 u ∧ sml 1048576 v
def okC (ch : List (List Int × Nat)) : Prop := ch = [] ∨ (∃ c, ch = [(c, 0)] ∧ sml 1048576 c) ∨ ok1 ch ∨ ok2 ch ∨ ok3 ch ∨ ok4 ch
def smlB (m : Nat) (l : List Int) : Bool := Nat.ble (gZ l 0).natAbs m && Nat.ble (gZ l 1).natAbs m && Nat.ble (gZ l 2).natAbs m && Nat.ble (gZ l 3).natAbs m
theorem smlB_ok {m : Nat} {l : List Int} (h : smlB m l = true) : sml m l := by
  unfold smlB at h
  simp only [Bool.and_eq_true] at h
  intro k hk
  rcases (by omega : k = 0 ∨ k = 1 ∨ k = 2 ∨ k = 3) with rfl | rfl | rfl | rfl
  · exact Nat.le_of_ble_eq_true h.1.1.1
  · exact Nat.le_of_ble_eq_true h.1.1.2
  · exact Nat.le_of_ble_eq_true h.1.2
  · exact Nat.le_of_ble_eq_true h.2
/-- the cases where some root comes twice: few, by the kernel -/
def okZ : Option (List (List Int × Nat)) → Bool
  | some [] => true
  | some [(c, 0)] => smlB 1048576 c
  | some [(p, 1), (u, 0)] => decide (0 < gZ p 1) && decide (0 < gZ u 0) && smlB 1048576 p && smlB 1048576 u
  | some [(p, 2), (u, 1), (v, 0)] => decide (0 < gZ p 2) && decide (gZ p 2 ≤ 4000) && decide (0 < gZ u 1) && decide (gZ u 1 * gZ p 1 = gZ u 0 * (2 * gZ p 2)) && decide (0 < gZ v 0 * dqz p) && smlB 1048576 p && smlB 1048576 u && smlB 1048576 v
  | _ => false
theorem okZ_ok {o : Option (List (List Int × Nat))} (h : okZ o = true) : ∃ ch, o = some ch ∧ okC ch := by
  unfold okZ at h
  split at h
  · exact ⟨_, rfl, Or.inl rfl⟩
  · exact ⟨_, rfl, Or.inr (Or.inl ⟨_, rfl, smlB_ok h⟩)⟩
  · simp only [Bool.and_eq_true, decide_eq_true_eq] at h
    exact ⟨_, rfl, Or.inr (Or.inr (Or.inl ⟨_, _, rfl, h.1.1.1, h.1.1.2, smlB_ok h.1.2, smlB_ok h.2⟩))⟩
  · simp only [Bool.and_eq_true, decide_eq_true_eq] at h
    obtain ⟨⟨⟨⟨⟨⟨⟨h1, h2⟩, h3⟩, h4⟩, h5⟩, h6⟩, h7⟩, h8⟩ := h
    exact ⟨_, rfl, Or.inr (Or.inr (Or.inr (Or.inl ⟨_, _, _, rfl, h1, h2, h3, h4, h5, smlB_ok h6, smlB_ok h7, smlB_ok h8⟩)))⟩
  · cases h
def spK (d c b a : Int) : Bool := match decEq a 0 with
  | .isTrue _ => (match decEq b 0 with
    | .isTrue _ => false
    | .isFalse _ => (match decEq (c * c) (4 * b * d) with
      | .isTrue _ => false
      | .isFalse _ => true))
  | .isFalse _ => (match decEq (4 * (b * b - 3 * a * c) * (b * b - 3 * a * c) * (b * b - 3 * a * c)) ((2 * b * b * b - 9 * a * b * c + 27 * a * a * d) * (2 * b * b * b - 9 * a * b * c + 27 * a * a * d)) with
    | .isTrue _ => false
    | .isFalse _ => true)
def rgI : List Int := [-7, -6, -5, -4, -3, -2, -1, 0, 1, 2, 3, 4, 5, 6, 7]
def chkR (a : Int) : Bool := rgI.all fun b => rgI.all fun c => rgI.all fun d => spK d c b a || okZ (bcZ [d, c, b, a])
set_option maxRecDepth 100000 in
theorem chkR_m7 : chkR (-7) = true := by decide +kernel
set_option maxRecDepth 100000 in
theorem chkR_m6 : chkR (-6) = true := by decide +kernel
set_option maxRecDepth 100000 in
theorem chkR_m5 : chkR (-5) = true := by decide +kernel
set_option maxRecDepth 100000 in
theorem chkR_m4 : chkR (-4) = true := by decide +kernel
set_option maxRecDepth 100000 in
theorem chkR_m3 : chkR (-3) = true := by decide +kernel
set_option maxRecDepth 100000 in
theorem chkR_m2 : chkR (-2) = true := by decide +kernel
set_option maxRecDepth 100000 in
theorem chkR_m1 : chkR (-1) = true := by decide +kernel
set_option maxRecDepth 100000 in
theorem chkR_0 : chkR 0 = true := by decide +kernel
set_option maxRecDepth 100000 in
theorem chkR_1 : chkR 1 = true := by decide +kernel
set_option maxRecDepth 100000 in
theorem chkR_2 : chkR 2 = true := by decide +kernel
set_option maxRecDepth 100000 in
theorem chkR_3 : chkR 3 = true := by decide +kernel
set_option maxRecDepth 100000 in
theorem chkR_4 : chkR 4 = true := by decide +kernel
set_option maxRecDepth 100000 in
theorem chkR_5 : chkR 5 = true := by decide +kernel
set_option maxRecDepth 100000 in
theorem chkR_6 : chkR 6 = true := by decide +kernel
set_option maxRecDepth 100000 in
theorem chkR_7 : chkR 7 = true := by decide +kernel
theorem rgI_in {x : Int} (h : x.natAbs ≤ 7) : x ∈ rgI := by
  have : x = -7 ∨ x = -6 ∨ x = -5 ∨ x = -4 ∨ x = -3 ∨ x = -2 ∨ x = -1 ∨ x = 0 ∨ x = 1 ∨ x = 2 ∨ x = 3 ∨ x = 4 ∨ x = 5 ∨ x = 6 ∨ x = 7 := by omega
  unfold rgI
  simp only [List.mem_cons, List.not_mem_nil, or_false]
  exact this
theorem chkR_all {a b c d : Int} (ha : a.natAbs ≤ 7) (hb : b.natAbs ≤ 7) (hc : c.natAbs ≤ 7) (hd : d.natAbs ≤ 7) : spK d c b a = true ∨ ∃ ch, bcZ [d, c, b, a] = some ch ∧ okC ch := by
  have h : chkR a = true := by
    have : a = -7 ∨ a = -6 ∨ a = -5 ∨ a = -4 ∨ a = -3 ∨ a = -2 ∨ a = -1 ∨ a = 0 ∨ a = 1 ∨ a = 2 ∨ a = 3 ∨ a = 4 ∨ a = 5 ∨ a = 6 ∨ a = 7 := by omega
    rcases this with rfl | rfl | rfl | rfl | rfl | rfl | rfl | rfl | rfl | rfl | rfl | rfl | rfl | rfl | rfl
    · exact chkR_m7
    · exact chkR_m6
    · exact chkR_m5
    · exact chkR_m4
    · exact chkR_m3
    · exact chkR_m2
    · exact chkR_m1
    · exact chkR_0
    · exact chkR_1
    · exact chkR_2
    · exact chkR_3
    · exact chkR_4
    · exact chkR_5
    · exact chkR_6
    · exact chkR_7
  unfold chkR at h
  have h := List.all_eq_true.mp h b (rgI_in hb)
  have h := List.all_eq_true.mp h c (rgI_in hc)
  have h := List.all_eq_true.mp h d (rgI_in hd)
  rw [Bool.or_eq_true] at h
  exact h.imp id okZ_ok
theorem spK_3 {a b c d : Int} (ha : a ≠ 0) (h : spK d c b a = true) : dlt [d, c, b, a] ≠ 0 := by
  unfold spK at h
  split at h
  · rename_i z _
    exact absurd z ha
  · split at h
    · cases h
    · rename_i z _
      intro e
      refine z ?_
      unfold dlt Pz Qz gZ at e
      simp only [List.getD_cons_zero, List.getD_cons_succ] at e
      grind
theorem spK_2 {b c d : Int} (h : spK d c b 0 = true) : b ≠ 0 ∧ c * c - 4 * b * d ≠ 0 := by
  unfold spK at h
  split at h
  · split at h
    · cases h
    · rename_i hb _
      refine ⟨hb, ?_⟩
      split at h
      · cases h
      · rename_i z _
        omega
  · rename_i z _
    exact absurd rfl z
end
