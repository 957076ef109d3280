/-! THE PURE PART, inequalities: both first tables; the rows are accepted. -/
section
theorem dsz_split {f : Nat → Int} {a : Nat} : ∀ b, dsz (a + b) f = dsz a f + dsz b (fun i => f (a + i))
  | 0 => by
    show dsz a f = dsz a f + 0
    omega
  | b + 1 => by
    show dsz (a + b) f + f (a + b) = dsz a f + (dsz b (fun i => f (a + i)) + f (a + b))
    rw [dsz_split b]
    omega
/-- unit columns, one of them another one -/
theorem det_un {R r : Nat} {v : Nat → Int} (hr : r < R) : det R (upC uni r v) = v r := by
  have e : det R (upC uni r v) = det R (upC uni r (fun i => dsz R (fun l => v l * uni l i))) := det_c R (fun j i _ hi => by
    unfold upC
    by_cases z : j = r
    · rw [if_pos z, if_pos z]
      show v i = dsz R (fun l => v l * uni l i)
      rw [dsz_1 (o := i) R hi (fun q hq hn => by
        show v q * (if i = q then 1 else 0) = 0
        rw [if_neg (fun y => hn y.symm), Int.mul_zero])]
      show v i = v i * (if i = i then 1 else 0)
      rw [if_pos rfl, Int.mul_one]
    · rw [if_neg z, if_neg z])
  rw [e, det_sum hr, dsz_1 (o := r) R hr (fun l hl hn => by
    rw [det_eq (a := r) (b := l) hr hl (fun y => hn y.symm) (fun i _ => by
      unfold upC
      rw [if_pos rfl, if_neg hn]), Int.mul_zero])]
  have one : det R (upC uni r (uni r)) = 1 := det_one R (fun j i _ _ => by
    unfold upC uni
    by_cases z : j = r
    · rw [if_pos z, z]
      by_cases y : i = r
      · rw [if_pos y, if_pos y.symm]
      · rw [if_neg y, if_neg (fun x => y x.symm)]
    · rw [if_neg z]
      by_cases y : i = j
      · rw [if_pos y, if_pos y.symm]
      · rw [if_neg y, if_neg (fun x => y x.symm)])
  rw [one, Int.mul_one]
/-- the table with which it begins -/
def stS (a : Nat → Nat → Int) (R C : Nat) : lpS := (fun r c => if r = R then dsz R (fun i => a (if c = C then C + R else c) i) else a (if c = C then C + R else c) r, fun r => C + r, fun c => if c = C then C + R else c, 0, 1)
theorem stS_I {a : Nat → Nat → Int} {R C : Nat} (hu : ∀ r i, r < R → i < R → a (C + r) i = uni r i) (hp : ∀ r, r < R → 0 ≤ a (C + R) r) : lpI a R C (stS a R C) ∧ unL C (stS a R C) := by
  have tv : ∀ r c, r < R → sT (stS a R C) r c = a (sC (stS a R C) c) r := fun r c hr => if_neg (by omega)
  have eU : ∀ (r : Nat) (v : Nat → Int), det R (upC (fun j => a (sR (stS a R C) j)) r v) = det R (upC uni r v) := fun r v => det_c R (fun j i hj hi => by
    unfold upC
    by_cases z : j = r
    · rw [if_pos z, if_pos z]
    · rw [if_neg z, if_neg z]
      exact hu j i hj hi)
  refine ⟨⟨⟨?_, fun r c hr hc => ?_, fun c i hc hi => ?_⟩, Int.one_pos, fun r hr => ?_, ⟨fun r hr => ?_, fun c hc => ?_, fun r r' hr hr' e => ?_, fun c c' hc hc' e => ?_, fun r c hr hc e => ?_, if_pos rfl, fun l hl => ?_⟩, ⟨fun c hc => ?_, ?_⟩, fun c hc hl => ?_⟩, fun l _ => Nat.zero_testBit l⟩
  · exact (det_one R (fun j i hj hi => by
      show a (C + j) i = _
      rw [hu j i hj hi]
      show (if i = j then (1 : Int) else 0) = _
      by_cases y : i = j
      · rw [if_pos y, if_pos y.symm]
      · rw [if_neg y, if_neg (fun x => y x.symm)])).symm
  · rw [eU, det_un hr, tv r c hr]
  · show 1 * a (sC (stS a R C) c) i = dsz R (fun k => sT (stS a R C) k c * a (C + k) i)
    rw [dsz_1 (o := i) R hi (fun k hk hn => by
      rw [hu k i hk hi]
      show _ * (if i = k then (1 : Int) else 0) = 0
      rw [if_neg (fun y => hn y.symm), Int.mul_zero]), hu i i hi hi, tv i c hi]
    show _ = _ * (if i = i then (1 : Int) else 0)
    rw [if_pos rfl, Int.mul_one, Int.one_mul]
  · rw [tv r C hr]
    show 0 ≤ a (if C = C then C + R else C) r
    rw [if_pos rfl]
    exact hp r hr
  · show C + r < C + R
    omega
  · show (if c = C then C + R else c) < C + R
    rw [if_neg (by omega)]
    omega
  · have e : C + r = C + r' := e
    omega
  · have e : (if c = C then C + R else c) = if c' = C then C + R else c' := e
    rw [if_neg (by omega), if_neg (by omega)] at e
    exact e
  · have e : C + r = if c = C then C + R else c := e
    rw [if_neg (by omega)] at e
    omega
  · by_cases z : l < C
    · exact Or.inr ⟨l, z, if_neg (by omega)⟩
    · exact Or.inl ⟨l - C, by omega, by show C + (l - C) = l; omega⟩
  · have e : sC (stS a R C) c = c := if_neg (by omega)
    rw [e, if_neg (by omega)]
    have g : gSm (stS a R C) R C c = dsz R (fun i => a (sC (stS a R C) c) i) := dsz_congr R (fun r hr => by
      show (if C ≤ C + r then sT (stS a R C) r c else 0) = _
      rw [if_pos (by omega), tv r c hr])
    rw [g]
    show (if R = R then dsz R (fun i => a (sC (stS a R C) c) i) else _) = _
    rw [if_pos rfl]
    omega
  · have g : gSm (stS a R C) R C C = dsz R (fun i => a (sC (stS a R C) C) i) := dsz_congr R (fun r hr => by
      show (if C ≤ C + r then sT (stS a R C) r C else 0) = _
      rw [if_pos (by omega), tv r C hr])
    rw [g]
    show (if R = R then dsz R (fun i => a (sC (stS a R C) C) i) else _) = _
    rw [if_pos rfl]
  · have hl : C ≤ if c = C then C + R else c := hl
    rw [if_neg (by omega)] at hl
    omega
def fulS (S : lpS) (R C : Nat) : lpS := lkS (stI R C R S 100000) C R
/-- what no number but 1 divides -/
def gcL (S : lpS) (R C : Nat) : Nat → Nat
  | 0 => (sL S).natAbs
  | l + 1 => Nat.gcd (gcL S R C l) (vlS S R C l).natAbs
theorem gcL_d {S : lpS} {R C : Nat} : ∀ n, gcL S R C n ∣ (sL S).natAbs ∧ ∀ l, l < n → gcL S R C n ∣ (vlS S R C l).natAbs
  | 0 => ⟨Nat.dvd_refl _, fun l h => absurd h (Nat.not_lt_zero _)⟩
  | n + 1 => by
    obtain ⟨h1, h2⟩ := gcL_d (S := S) (R := R) (C := C) n
    rw [gcL]
    refine ⟨Nat.dvd_trans (Nat.gcd_dvd_left _ _) h1, fun l hl => ?_⟩
    by_cases e : l = n
    · rw [e]
      exact Nat.gcd_dvd_right _ _
    · exact Nat.dvd_trans (Nat.gcd_dvd_left _ _) (h2 l (by omega))
def rowL (S : lpS) (R C n : Nat) : List Int32 := Int32.ofInt ((sL S).tdiv (gcL S R C n)) :: (List.range n).map (fun l => Int32.ofInt ((vlS S R C l).tdiv (gcL S R C n)))
/-- the row's numbers, times the divisor -/
theorem rowL_v {a : Nat → Nat → Int} {R C B n : Nat} {S : lpS} (h : lpI a R C S) (hb : bdA a R C B) (hB : B < 2 ^ 31) : ∃ g : Int, 0 < g ∧ (rowL S R C n).length = n + 1 ∧ g * ((rowL S R C n).getD 0 0).toInt = sL S ∧ ∀ l, l < n → g * ((rowL S R C n).getD (l + 1) 0).toInt = vlS S R C l := by
  obtain ⟨d1, d2⟩ := gcL_d (S := S) (R := R) (C := C) n
  have L := h.2.1
  have gp : 0 < gcL S R C n := Nat.pos_of_dvd_of_pos d1 (by omega)
  have one : ∀ x : Int, 0 ≤ x → x.natAbs ≤ B → gcL S R C n ∣ x.natAbs → (gcL S R C n : Int) * (Int32.ofInt (x.tdiv (gcL S R C n))).toInt = x := fun x h0 hx hd => by
    obtain ⟨q, hq⟩ := hd
    have e : x = (gcL S R C n : Int) * (q : Int) := by
      rw [← Int.natCast_mul, ← hq]
      omega
    have t : x.tdiv (gcL S R C n) = (q : Int) := by
      rw [e]
      exact Int.mul_tdiv_cancel_left _ (by omega)
    have ql : q ≤ x.natAbs := by
      rw [hq]
      exact Nat.le_mul_of_pos_left _ gp
    rw [t, Int32.toInt_ofInt_of_le (by omega) (by omega), ← e]
  refine ⟨(gcL S R C n : Int), by omega, ?_, one _ (by omega) (lp_L h hb) d1, fun l hl => ?_⟩
  · show ((List.range n).map _).length + 1 = n + 1
    rw [List.length_map, List.length_range]
  · have e : (rowL S R C n).getD (l + 1) 0 = Int32.ofInt ((vlS S R C l).tdiv (gcL S R C n)) := by
      unfold rowL
      rw [List.getD_cons_succ, List.getD_eq_getElem?_getD, List.getElem?_map, List.getElem?_range hl]
      rfl
    rw [e]
    exact one _ (vlS_0 h) (vlS_B h hb) (d2 l hl)
end
