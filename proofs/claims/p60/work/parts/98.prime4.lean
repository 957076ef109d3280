/-! THE PURE PART, primes: the row that is written; that it can be read, by the kernel. -/
section
def ibN (a p : Nat) : Nat → Nat → Bool
  | 0, _ => true
  | k + 1, rest => if rest ≤ 1 then true else if ld rest < 2 then false else if pw a ((p - 1) / ld rest) p = 1 then false else ibN a p k (wod rest (ld rest))
def bsN (p : Nat) : Nat → Nat → Nat
  | 0, _ => 1
  | k + 1, a => if p ≤ a then 1 else if ibN a p 40 (p - 1) = true then a else bsN p k (a + 1)
def wrL (rc : Nat → List Nat) : Nat → Nat → List Nat
  | 0, _ => []
  | k + 1, rest => if rest ≤ 1 then [] else rc (ld rest) ++ wrL rc k (wod rest (ld rest))
def wrP : Nat → Nat → List Nat
  | 0, _ => []
  | j + 1, p => if p ≤ 2 then [p] else if 40 < 48 - (j + 1) then [p] else p :: bsN p p 2 :: wrL (wrP j) 40 (p - 1)
def chP (p : Nat) : Bool := decide (ld p ≠ p) || (decide ((wrP 48 p).length ≤ 100) && decide (rdP ((wrP 48 p).map nI) false 48 0 = some (wrP 48 p).length) && decide (rdP ((wrP 48 p).map nI) true 48 0 = some (wrP 48 p).length))
def chR (lo : Nat) : Nat → Bool
  | 0 => true
  | n + 1 => chP (lo + n) && chR lo n
set_option maxRecDepth 100000 in
theorem ch_0 : chR 2 98 = true := by decide +kernel
set_option maxRecDepth 100000 in
theorem ch_1 : chR 100 900 = true := by decide +kernel
set_option maxRecDepth 100000 in
theorem ch_2 : chR 1000 1000 = true := by decide +kernel
set_option maxRecDepth 100000 in
theorem ch_3 : chR 2000 1000 = true := by decide +kernel
set_option maxRecDepth 100000 in
theorem ch_4 : chR 3000 1000 = true := by decide +kernel
set_option maxRecDepth 100000 in
theorem ch_5 : chR 4000 1000 = true := by decide +kernel
set_option maxRecDepth 100000 in
theorem ch_6 : chR 5000 1000 = true := by decide +kernel
set_option maxRecDepth 100000 in
theorem ch_7 : chR 6000 1000 = true := by decide +kernel
set_option maxRecDepth 100000 in
theorem ch_8 : chR 7000 1000 = true := by decide +kernel
set_option maxRecDepth 100000 in
theorem ch_9 : chR 8000 1000 = true := by decide +kernel
set_option maxRecDepth 100000 in
theorem ch_10 : chR 9000 1000 = true := by decide +kernel
end
