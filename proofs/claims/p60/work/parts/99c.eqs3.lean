/-! THE PURE PART, equations: the modulus that is looked for. -/
section
def orE {α : Type} : Option α → Option α → Option α
  | some a, _ => some a
  | none, b => b
def srch {α : Type} (f : Nat → Option α) : Nat → Nat → Option α
  | 0, _ => none
  | k + 1, i => orE (f i) (srch f k (i + 1))
def hitD (d : Nat → Int32) (s m : Nat) (b : Int32) (mo x y : Nat) : Prop := (∀ u, u < s → (mo : Int) ∣ muL d m u x y) ∧ ¬ (mo : Int) ∣ riL d m b x y
noncomputable def fH (d : Nat → Int32) (s m : Nat) (b : Int32) (mo x y : Nat) : Option (Nat × Nat × Nat) := @ite _ (hitD d s m b mo x y) (Classical.propDecidable _) (some (mo, x, y)) none
def nY (m mo : Nat) : Nat := if m ≤ 1 then 1 else mo
noncomputable def fY (d : Nat → Int32) (s m : Nat) (b : Int32) (mo x : Nat) : Option (Nat × Nat × Nat) := srch (fH d s m b mo x) (nY m mo) 0
noncomputable def fX (d : Nat → Int32) (s m : Nat) (b : Int32) (mo : Nat) : Option (Nat × Nat × Nat) := srch (fY d s m b mo) mo 0
def rowD (m : Nat) : Option (Nat × Nat × Nat) → List Int32
  | none => []
  | some (mo, x, y) => if m ≤ 1 then [nI mo, nI x] else [nI mo, nI x, nI y]
theorem T_writeModulus {F e s m : Nat} {Ln : Nat → Nat} {b : Int32} {d : Nat → Int32} {V : mV} (hF : 2 ^ 34 ≤ F) (he : 256 ≤ e) (he2 : e < 1024) (hk : mK (e + 2) = 9) (hs : s ≤ 4) (hm : m ≤ 2) (hd : qD d s m b) (hq : enQ V e s m b d) (hR : rowIs Ln V (e + 2) []) : mTo (mX8_writeModulus F Ln e V) (fun q => rowIs q.2.1 q.2.2 (e + 2) (rowD m (srch (fX d s m b) 998 2))) := by
  obtain ⟨B, hB1, hB2⟩ : ∃ B, 2010 ≤ B ∧ B ≤ 2010 := ⟨2010, Nat.le_refl _, Nat.le_refl _⟩
  obtain ⟨W, hW1, hW2⟩ : ∃ W, 1000 * B ≤ W ∧ W ≤ 2010000 := ⟨1000 * B, Nat.le_refl _, by omega⟩
  have hW : ∀ mo, mo ≤ 1000 → mo * B ≤ W := fun mo h => Nat.le_trans (Nat.mul_le_mul_right _ h) hW1
  obtain ⟨A, hA1, hA2⟩ : ∃ A, W + 10 ≤ A ∧ A ≤ 2010010 := ⟨W + 10, Nat.le_refl _, by omega⟩
  clear hW1
  have go : ∀ k', (∀ c mo, c + mo = 1000 → 2 ≤ mo → c * A + 1 ≤ k' → mTo (mX8_writeModulus_go F k' 0 Ln e (if m ≤ 1 then 0 else 1) (nI mo) 0 0 0 0 V) (fun q => rowIs q.2.1 q.2.2 (e + 2) (rowD m (srch (fX d s m b) c mo)))) ∧ (∀ c mo cx x, c + mo + 1 = 1000 → 2 ≤ mo → cx + x = mo → c * A + cx * B + 2 ≤ k' → mTo (mX8_writeModulus_go F k' 1 Ln e (if m ≤ 1 then 0 else 1) (nI mo) (nI x) 0 0 0 V) (fun q => rowIs q.2.1 q.2.2 (e + 2) (rowD m (orE (srch (fY d s m b mo) cx x) (srch (fX d s m b) c (mo + 1)))))) ∧ (∀ c mo cx x cy y, c + mo + 1 = 1000 → 2 ≤ mo → cx + x + 1 = mo → cy + y = nY m mo → c * A + cx * B + cy * 2 + 4 ≤ k' → mTo (mX8_writeModulus_go F k' 2 Ln e (if m ≤ 1 then 0 else 1) (nI mo) (nI x) (nI y) 0 0 V) (fun q => rowIs q.2.1 q.2.2 (e + 2) (rowD m (orE (srch (fH d s m b mo x) cy y) (orE (srch (fY d s m b mo) cx (x + 1)) (srch (fX d s m b) c (mo + 1))))))) ∧ (∀ c mo cx x cy y, c + mo + 1 = 1000 → 2 ≤ mo → cx + x + 1 = mo → cy + y = nY m mo → c * A + cx * B + cy * 2 + 3 ≤ k' → mTo (mX8_writeModulus_go F k' 3 Ln e (if m ≤ 1 then 0 else 1) (nI mo) (nI x) (nI y) (nI y) (nI (nY m mo)) V) (fun q => rowIs q.2.1 q.2.2 (e + 2) (rowD m (orE (srch (fH d s m b mo x) cy y) (orE (srch (fY d s m b mo) cx (x + 1)) (srch (fX d s m b) c (mo + 1))))))) := by
    intro k'
    induction k' with
    | zero => exact ⟨fun c mo _ _ h => by omega, fun c mo cx x _ _ _ h => by omega, fun c mo cx x cy y _ _ _ _ h => by omega, fun c mo cx x cy y _ _ _ _ h => by omega⟩
    | succ k ih =>
      obtain ⟨ih0, ih1, ih2, ih3⟩ := ih
      refine ⟨fun c mo h1 h2 h3 => ?_, fun c mo cx x h1 h2 h3 h4 => ?_, fun c mo cx x cy y h1 h2 h3 h4 h5 => ?_, fun c mo cx x cy y h1 h2 h3 h4 h5 => ?_⟩
      · rw [mX8_writeModulus_go, if_pos (c := 0 = 0) rfl]
        unfold mX8_writeModulus_b0
        refine mTo.le (a := 1000) rfl rfl (by omega) (by omega) (fun z => mTo.ret ?_) (fun z => ?_)
        · have : c = 0 := by omega
          subst this
          exact hR
        · obtain ⟨c, rfl⟩ : ∃ t, c = t + 1 := ⟨c - 1, by omega⟩
          have em : (c + 1) * A = c * A + A := Nat.succ_mul c A
          have := hW mo (by omega)
          exact ih1 c mo mo 0 (by omega) h2 (by omega) (by omega)
      · rw [mX8_writeModulus_go, if_neg (c := 1 = 0) (by decide), if_pos (c := 1 = 1) rfl]
        unfold mX8_writeModulus_b1
        refine mTo.le rfl rfl (by omega) (by omega) (fun z => mTo.lt ?_) (fun z => ?_)
        · have : cx = 0 := by omega
          subst this
          rw [nI_1]
          exact ih0 c (mo + 1) (by omega) (by omega) (by omega)
        · obtain ⟨cx, rfl⟩ : ∃ t, cx = t + 1 := ⟨cx - 1, by omega⟩
          have em : (cx + 1) * B = cx * B + B := Nat.succ_mul cx B
          have ny : nY m mo ≤ 1000 := by
            unfold nY
            by_cases w : m ≤ 1
            · rw [if_pos w]
              omega
            · rw [if_neg w]
              omega
          have g := ih2 c mo cx x (nY m mo) 0 (by omega) h2 (by omega) rfl (by omega)
          have as : ∀ p q r : Option (Nat × Nat × Nat), orE (orE p q) r = orE p (orE q r) := fun p q r => by cases p <;> rfl
          rw [srch, as]
          exact g
      · rw [mX8_writeModulus_go, if_neg (c := 2 = 0) (by decide), if_neg (c := 2 = 1) (by decide), if_pos (c := 2 = 2) rfl]
        unfold mX8_writeModulus_b2
        have g := ih3 c mo cx x cy y h1 h2 h3 h4 (by omega)
        by_cases w : m ≤ 1
        · have e1 : nY m mo = 1 := if_pos w
          rw [e1] at g
          rw [if_pos w] at g ⊢
          rw [if_pos (c := (0 : Int32) = 0) rfl]
          exact g
        · have e1 : nY m mo = mo := if_neg w
          rw [e1] at g
          rw [if_neg w] at g ⊢
          rw [if_neg (c := (1 : Int32) = 0) (by decide)]
          exact g
      · rw [mX8_writeModulus_go, if_neg (c := 3 = 0) (by decide), if_neg (c := 3 = 1) (by decide), if_neg (c := 3 = 2) (by decide), if_pos (c := 3 = 3) rfl]
        unfold mX8_writeModulus_b3
        have ny : nY m mo ≤ 1000 := by
          unfold nY
          by_cases w : m ≤ 1
          · rw [if_pos w]
            omega
          · rw [if_neg w]
            omega
        refine mTo.le rfl rfl (by omega) (by omega) (fun z => mTo.lt ?_) (fun z => ?_)
        · have : cy = 0 := by omega
          subst this
          rw [nI_1]
          exact ih1 c mo cx (x + 1) h1 h2 (by omega) (by omega)
        · obtain ⟨cy, rfl⟩ : ∃ t, cy = t + 1 := ⟨cy - 1, by omega⟩
          have iM : (nI mo).toInt64.toInt = (mo : Int) := by rw [I_J, nI_toInt (by omega)]
          have iX : (nI x).toInt64.toInt = (x : Int) := by rw [I_J, nI_toInt (by omega)]
          have iY : (nI y).toInt64.toInt = (y : Int) := by rw [I_J, nI_toInt (by omega)]
          have q1 := T_areMult (F := F) (M := (nI mo).toInt64) (X := (nI x).toInt64) (Y := (nI y).toInt64) (by omega) hs (by omega) hd hq (by rw [iM]; omega) (by rw [iX]; omega) (by rw [iY]; omega)
          have q2 := T_isNoMult (F := F) (M := (nI mo).toInt64) (X := (nI x).toInt64) (Y := (nI y).toInt64) (by omega) (by omega) hd hq (by rw [iM]; omega) (by rw [iX]; omega) (by rw [iY]; omega)
          rw [iM, iX, iY] at q1 q2
          have g := ih2 c mo cx x cy (y + 1) h1 h2 h3 (by omega) (by omega)
          have no : ¬ hitD d s m b mo x y → mTo (mLt (nI y + (1 : Int32)) fun x13 => (mX8_writeModulus_go F k 2 Ln e (if m ≤ 1 then 0 else 1) (nI mo) (nI x) (x13) 0 0 V)) (fun q => rowIs q.2.1 q.2.2 (e + 2) (rowD m (orE (srch (fH d s m b mo x) (cy + 1) y) (orE (srch (fY d s m b mo) cx (x + 1)) (srch (fX d s m b) c (mo + 1)))))) := fun w => by
            have e0 : fH d s m b mo x y = none := if_neg w
            rw [srch, e0]
            refine mTo.lt ?_
            rw [nI_1]
            exact g
          refine mTo.N q1 (fun v _ h => mTo.tf h (fun hc => no (fun w => hc w.1)) (fun hc => mTo.N q2 (fun v _ h => mTo.tf h (fun hn => no (fun w => hn w.2)) (fun hn => ?_))))
          have e0 : fH d s m b mo x y = some (mo, x, y) := if_pos ⟨hc, hn⟩
          rw [srch, e0]
          show mTo _ (fun q : Unit × (Nat → Nat) × mV => rowIs q.2.1 q.2.2 (e + 2) (if m ≤ 1 then [nI mo, nI x] else [nI mo, nI x, nI y]))
          have m0 : m ≠ 0 := fun w => hn (by
            unfold riL
            rw [if_neg (by omega), if_neg (by omega)]
            exact Int.dvd_zero _)
          refine mTo.A (T_radd hk hR (by show 0 < 1024; omega)) (fun a L1 V1 _ h => ?_)
          obtain ⟨r1, r2, _⟩ := h
          have r2 : mAv (wX9_add (e + 2)) V V1 := r2
          refine mTo.A (T_radd hk r1 (by show 1 < 1024; omega)) (fun a L2 V2 _ h => ?_)
          obtain ⟨s1, s2, _⟩ := h
          have s2 : mAv (wX9_add (e + 2)) V1 V2 := s2
          have s1 : rowIs L2 V2 (e + 2) [nI mo, nI x] := s1
          have f6 : V2.fI e 6 = nI m := by rw [(s2.1 e (by unfold wX9_add; omega)).1, (r2.1 e (by unfold wX9_add; omega)).1]; exact hq.2.1
          rw [f6, nI_1]
          by_cases w : m ≤ 1
          · rw [if_pos w]
            have : m = 1 := by omega
            subst this
            refine mTo.A (Q := fun p => rowIs p.2.1 p.2.2 (e + 2) [nI mo, nI x]) ?_ (fun a L3 V3 _ h => mTo.ret h)
            unfold mX9_addBelow
            refine mTo.le (a := 2) rfl s1.1 (by omega) (by show 2 < 2 ^ 31; omega) (fun _ => mTo.ret s1) (fun y => absurd (show 2 < 2 from y) (by omega))
          · rw [if_neg w]
            have : m = 2 := by omega
            subst this
            refine mTo.A (Q := fun p => rowIs p.2.1 p.2.2 (e + 2) [nI mo, nI x, nI y]) ?_ (fun a L3 V3 _ h => mTo.ret h)
            unfold mX9_addBelow
            refine mTo.le (a := 3) rfl s1.1 (by omega) (by show 2 < 2 ^ 31; omega) (fun y => absurd (show 3 ≤ 2 from y) (by omega)) (fun _ => ?_)
            exact mTo.A (T_radd hk s1 (by show 2 < 1024; omega)) (fun a L3 V3 _ h => mTo.ret h.1)
  have cA : 998 * A ≤ 998 * 2010010 := Nat.mul_le_mul_left _ hA2
  have g := (go F).1 998 2 rfl (by omega) (by omega)
  unfold mX8_writeModulus mX8_writeModulus_s
  refine mTo.le (b := 1) hq.2.1 rfl (by omega) (by omega) (fun z => ?_) (fun z => ?_)
  · rw [if_pos z] at g
    exact g
  · rw [if_neg (by omega)] at g
    exact g
end
