/-! THE PURE PART: rules for ifs over nI; sets as bits. (nb_sl, nb_and, nb_xor began as the kit's s_l, nx_and, nx_xor.) -/
section
theorem nb_sl : ∀ n, n < 32 → ((nI n &&& 31).toBitVec.smod 32).toNat = n := by decide +kernel
theorem nb_and (a b : Nat) : nI a &&& nI b = nI (a &&& b) := by
  apply Int32.toBitVec_inj.1
  show BitVec.ofNat 32 a &&& BitVec.ofNat 32 b = BitVec.ofNat 32 (a &&& b)
  apply BitVec.eq_of_getLsbD_eq
  intro i hi
  simp [hi]
theorem nb_xor (a b : Nat) : nI a ^^^ nI b = nI (a ^^^ b) := by
  apply Int32.toBitVec_inj.1
  show BitVec.ofNat 32 a ^^^ BitVec.ofNat 32 b = BitVec.ofNat 32 (a ^^^ b)
  apply BitVec.eq_of_getLsbD_eq
  intro i hi
  simp [hi]
theorem nb_or (a b : Nat) : nI a ||| nI b = nI (a ||| b) := by
  apply Int32.toBitVec_inj.1
  show BitVec.ofNat 32 a ||| BitVec.ofNat 32 b = BitVec.ofNat 32 (a ||| b)
  apply BitVec.eq_of_getLsbD_eq
  intro i hi
  simp [hi]
theorem nb_p2 {j n : Nat} (h : j < n) : 2 ^ j < 2 ^ n := Nat.pow_lt_pow_right (by decide) h
theorem nb_shl {a j : Nat} (hj : j < 32) (h : a * 2 ^ j < 2 ^ 32) : nI a <<< (nI j &&& 31) = nI (a * 2 ^ j) := pk_shlN _ j (nb_sl j hj) h
theorem nb_one {j : Nat} (hj : j < 31) : (1 : Int32) <<< (nI j &&& 31) = nI (2 ^ j) := by
  have h2 := nb_p2 (n := 32) (show j < 32 by omega)
  have h := nb_shl (a := 1) (j := j) (by omega) (by rw [Nat.one_mul]; exact h2)
  rw [Nat.one_mul] at h
  exact h
theorem nb_shr {a j : Nat} (ha : a < 2 ^ 31) (hj : j < 32) : nI a >>> (nI j &&& 31) = nI (a / 2 ^ j) := pk_shrN ha _ j (nb_sl j hj)
theorem nb_and1 (a : Nat) : nI a &&& (1 : Int32) = nI (a % 2) := by
  have := nb_and a 1
  rw [Nat.and_one_is_mod] at this
  exact this
/-- 'has', of a set of bits -/
theorem nb_has {F S j : Nat} (hS : S < 2 ^ 31) (hj : j < 32) : mX11_has F (nI S) (nI j) = some (if S.testBit j = true then 1 else 0) := by
  unfold mX11_has
  rw [nb_shr hS hj, nb_and1, Nat.testBit_eq_decide_div_mod_eq]
  rcases Nat.mod_two_eq_zero_or_one (S / 2 ^ j) with h | h
  · rw [h, if_pos nI_0, if_neg (by decide)]
  · rw [h, if_neg (by decide), if_pos (by decide)]
theorem nb_hasT {F S j : Nat} (hS : S < 2 ^ 31) (hj : j < 32) (h : S.testBit j = true) : mX11_has F (nI S) (nI j) = some 1 := by rw [nb_has hS hj, if_pos h]
theorem nb_hasF {F S j : Nat} (hS : S < 2 ^ 31) (hj : j < 32) (h : S.testBit j = false) : mX11_has F (nI S) (nI j) = some 0 := by rw [nb_has hS hj, if_neg (by rw [h]; decide)]
theorem nb_hasM {F j : Nat} (hj : j < 32) : mX11_has F (-1) (nI j) = some 1 := by
  unfold mX11_has
  exact (by decide +kernel : ∀ j, j < 32 → (if (((-1 : Int32) >>> (nI j &&& 31)) &&& (1 : Int32)) = 0 then some (0 : Int32) else some 1) = some 1) j hj
/-- a test of bits in an if -/
theorem mTo.hs {β : Type} {F S j : Nat} {x y : Int32} {A B : Option β} {R : β → Prop} (ex : x = nI S) (ey : y = nI j) (hS : S < 2 ^ 31) (hj : j < 32) (h0 : S.testBit j = false → mTo A R) (h1 : S.testBit j = true → mTo B R) : mTo (mBN (mX11_has F x y) fun v => if v = 0 then A else B) R := by
  subst ex
  subst ey
  unfold mBN
  cases h : S.testBit j with
  | false =>
    rw [nb_hasF hS hj h]
    show mTo (if (0 : Int32) = 0 then A else B) R
    rw [if_pos rfl]
    exact h0 h
  | true =>
    rw [nb_hasT hS hj h]
    show mTo (if (1 : Int32) = 0 then A else B) R
    rw [if_neg (by decide)]
    exact h1 h
theorem mTo.le {α : Type} {a b : Nat} {x y : Int32} {A B : Option α} {Q : α → Prop} (ex : x = nI a) (ey : y = nI b) (ha : a < 2 ^ 31) (hb : b < 2 ^ 31) (h1 : a ≤ b → mTo A Q) (h2 : b < a → mTo B Q) : mTo (if x ≤ y then A else B) Q := by
  subst ex
  subst ey
  exact mTo.ite (fun h => h1 ((nI_leI ha hb).mp h)) (fun h => h2 (Nat.lt_of_not_le fun z => h ((nI_leI ha hb).mpr z)))
theorem mTo.ltI {α : Type} {a b : Nat} {x y : Int32} {A B : Option α} {Q : α → Prop} (ex : x = nI a) (ey : y = nI b) (ha : a < 2 ^ 31) (hb : b < 2 ^ 31) (h1 : a < b → mTo A Q) (h2 : b ≤ a → mTo B Q) : mTo (if x < y then A else B) Q := by
  subst ex
  subst ey
  exact mTo.ite (fun h => h1 ((nI_ltI ha hb).mp h)) (fun h => h2 (Nat.le_of_not_lt fun z => h ((nI_ltI ha hb).mpr z)))
theorem mTo.eqI {α : Type} {a b : Nat} {x y : Int32} {A B : Option α} {Q : α → Prop} (ex : x = nI a) (ey : y = nI b) (ha : a < 2 ^ 31) (hb : b < 2 ^ 31) (h1 : a = b → mTo A Q) (h2 : a ≠ b → mTo B Q) : mTo (if x = y then A else B) Q := by
  subst ex
  subst ey
  exact mTo.ite (fun h => h1 ((nI_eq ha hb).mp h)) (fun h => h2 fun z => h ((nI_eq ha hb).mpr z))
/-- an index is in its bounds -/
theorem mTo.ix {α : Type} {c N : Nat} {x : Int32} {B : Option α} {Q : α → Prop} (ex : x = nI c) (h : c < N) (hN : N < 2 ^ 31) (k : mTo B Q) : mTo (if x < 0 ∨ N ≤ x.toNatClampNeg then none else B) Q := by
  subst ex
  exact mTo.gd (nI_in h hN) k
theorem mTo.so {α β : Type} {o : Option α} {v : α} {f : α → Option β} {R : β → Prop} (e : o = some v) (h : mTo (f v) R) : mTo (mBN o f) R := by
  subst e
  exact h
theorem mTo.eq {α : Type} {o : Option α} {v : α} {Q : α → Prop} (h : mTo o Q) (e : o = some v) : Q v := by
  obtain ⟨w, e2, q⟩ := h
  rw [e] at e2
  cases e2
  exact q
/-- S without T -/
def nsd (S T : Nat) : Nat := S ^^^ (S &&& T)
theorem nsd_bit (S T i : Nat) : (nsd S T).testBit i = (S.testBit i && !T.testBit i) := by
  unfold nsd
  rw [Nat.testBit_xor, Nat.testBit_and]
  cases S.testBit i <;> cases T.testBit i <;> rfl
theorem nb_lt {S n : Nat} (h : ∀ i, n ≤ i → S.testBit i = false) : S < 2 ^ n := Nat.lt_pow_two_of_testBit S h
theorem nb_big {S n i : Nat} (h : S < 2 ^ n) (hi : n ≤ i) : S.testBit i = false := Nat.testBit_lt_two_pow (Nat.lt_of_lt_of_le h (Nat.pow_le_pow_right (by decide) hi))
theorem nsd_lt {S T n : Nat} (h : S < 2 ^ n) : nsd S T < 2 ^ n := nb_lt fun i hi => by rw [nsd_bit, nb_big h hi, Bool.false_and]
theorem nb_not {S T : Nat} (hS : S < 2 ^ 31) : nI S &&& (nI T ^^^ (-1 : Int32)) = nI (nsd S T) := by
  rw [show (-1 : Int32) = nI (2 ^ 32 - 1) from by decide +kernel, nb_xor, nb_and]
  congr 1
  apply Nat.eq_of_testBit_eq
  intro i
  rw [nsd_bit, Nat.testBit_and, Nat.testBit_xor, Nat.testBit_two_pow_sub_one]
  by_cases hi : i < 32
  · rw [decide_eq_true hi]
    cases S.testBit i <;> cases T.testBit i <;> rfl
  · rw [nb_big hS (by omega)]
    rfl
theorem nb_full {s : Nat} (hs : s < 31) : (1 : Int32) <<< (nI s &&& 31) - 1 = nI (2 ^ s - 1) := by
  rw [nb_one hs]
  have := Nat.two_pow_pos s
  have h := nI_pred (2 ^ s - 1)
  rw [Nat.sub_add_cancel this] at h
  exact h
theorem nb_or_lt {S T n : Nat} (h : S < 2 ^ n) (h2 : T < 2 ^ n) : S ||| T < 2 ^ n := Nat.or_lt_two_pow h h2
theorem nb_and_lt {S T n : Nat} (h : S < 2 ^ n) : S &&& T < 2 ^ n := nb_lt fun i hi => by rw [Nat.testBit_and, nb_big h hi, Bool.false_and]
theorem nb_pow (j i : Nat) : (2 ^ j).testBit i = decide (j = i) := Nat.testBit_two_pow
theorem nb_ext {S T : Nat} (h : ∀ i, S.testBit i = T.testBit i) : S = T := Nat.eq_of_testBit_eq h
end
