abbrev vwCl : List vw_C := [(RJ0, TJ0, 2), (RJx00060, TJx00060, 6), (RX0, TX0, 4), (RX1, TX1, 7), (RX2, TX2, 10), (RX3, TX3, 17), (RX4, TX4, 8), (RX5, TX5, 7), (RX6, TX6, 8), (RX7, TX7, 11), (RX8, TX8, 9), (RX9, TX9, 2), (RX10, TX10, 12), (RX11, TX11, 19)]
section
abbrev wPS : Type := List Nat × (Nat → Nat) × (Nat → Nat → Int32) × (Nat → Nat → Int64) × (Nat → Nat → Option Nat) × (Nat → Nat) × (Nat → Nat → Int32) × (Nat → Nat → Int64) × (Nat → Nat → Option Nat)
/-- the addresses that live, and the kind of each -/
abbrev wPS.L (S : wPS) : List Nat := S.1
abbrev wPS.K (S : wPS) : Nat → Nat := S.2.1
/-- fields: numbers, long numbers, references -/
abbrev wPS.fI (S : wPS) : Nat → Nat → Int32 := S.2.2.1
abbrev wPS.fJ (S : wPS) : Nat → Nat → Int64 := S.2.2.2.1
abbrev wPS.fA (S : wPS) : Nat → Nat → Option Nat := S.2.2.2.2.1
/-- rows: how long, what they hold -/
abbrev wPS.len (S : wPS) : Nat → Nat := S.2.2.2.2.2.1
abbrev wPS.rI (S : wPS) : Nat → Nat → Int32 := S.2.2.2.2.2.2.1
abbrev wPS.rJ (S : wPS) : Nat → Nat → Int64 := S.2.2.2.2.2.2.2.1
abbrev wPS.rA (S : wPS) : Nat → Nat → Option Nat := S.2.2.2.2.2.2.2.2
abbrev wuF (S : wPS) (a j : Nat) (v : Int32) : wPS := (S.L, S.K, va_up S.fI a (va_up (S.fI a) j v), S.fJ, S.fA, S.len, S.rI, S.rJ, S.rA)
abbrev wuG (S : wPS) (a j : Nat) (v : Int64) : wPS := (S.L, S.K, S.fI, va_up S.fJ a (va_up (S.fJ a) j v), S.fA, S.len, S.rI, S.rJ, S.rA)
abbrev wuA (S : wPS) (a j : Nat) (v : Option Nat) : wPS := (S.L, S.K, S.fI, S.fJ, va_up S.fA a (va_up (S.fA a) j v), S.len, S.rI, S.rJ, S.rA)
abbrev wuRI (S : wPS) (a : Nat) (f : Nat → Int32) : wPS := (S.L, S.K, S.fI, S.fJ, S.fA, S.len, va_up S.rI a f, S.rJ, S.rA)
abbrev wuRJ (S : wPS) (a : Nat) (f : Nat → Int64) : wPS := (S.L, S.K, S.fI, S.fJ, S.fA, S.len, S.rI, va_up S.rJ a f, S.rA)
abbrev wuRA (S : wPS) (a : Nat) (f : Nat → Option Nat) : wPS := (S.L, S.K, S.fI, S.fJ, S.fA, S.len, S.rI, S.rJ, va_up S.rA a f)
abbrev wuI (S : wPS) (a : Nat) (i x : Int32) : wPS := wuRI S a (upd (S.rI a) i.toNatClampNeg x)
abbrev wuJ (S : wPS) (a : Nat) (i : Int32) (x : Int64) : wPS := wuRJ S a (vp_updL (S.rJ a) i.toNatClampNeg x)
abbrev wuRef (S : wPS) (a : Nat) (i : Int32) (x : Nat) : wPS := wuRA S a (va_up (S.rA a) i.toNatClampNeg (some x))
/-- a new object of a kind; a new row -/
abbrev wnO (S : wPS) (a k : Nat) : wPS := (S.L ++ [a], va_up S.K a k, va_up S.fI a (fun _ => 0), va_up S.fJ a (fun _ => 0), va_up S.fA a (fun _ => none), S.len, S.rI, S.rJ, S.rA)
abbrev wnI (S : wPS) (a k z : Nat) (f : Nat → Int32) : wPS := (S.L ++ [a], va_up S.K a k, S.fI, S.fJ, S.fA, va_up S.len a z, va_up S.rI a f, S.rJ, S.rA)
abbrev wnJ (S : wPS) (a z : Nat) (f : Nat → Int64) : wPS := (S.L ++ [a], va_up S.K a 14, S.fI, S.fJ, S.fA, va_up S.len a z, S.rI, va_up S.rJ a f, S.rA)
abbrev wnA (S : wPS) (a k z : Nat) (f : Nat → Option Nat) : wPS := (S.L ++ [a], va_up S.K a k, S.fI, S.fJ, S.fA, va_up S.len a z, S.rI, S.rJ, va_up S.rA a f)
/-- what lies at an address -/
def wkF (cy : Nat → ClassId) (S : wPS) : Nat → va_E := fun a => if S.K a = 0 then .inr (2, [.int (S.fI a 0), .int (S.fI a 1), .int (S.fI a 2), va_rf (S.fA a 3)]) else if S.K a = 1 then .inr (3, [va_rf (S.fA a 0), va_rf (S.fA a 1), .int (S.fI a 2), .int (S.fI a 3), .int (S.fI a 4), .int (S.fI a 5), .int (S.fI a 6)]) else if S.K a = 2 then .inr (4, [va_rf (S.fA a 0), va_rf (S.fA a 1), va_rf (S.fA a 2), va_rf (S.fA a 3), va_rf (S.fA a 4), va_rf (S.fA a 5), va_rf (S.fA a 6), va_rf (S.fA a 7), .int (S.fI a 8), .int (S.fI a 9)]) else if S.K a = 3 then .inr (5, [.int (S.fI a 0), .int (S.fI a 1), .int (S.fI a 2), .int (S.fI a 3), .int (S.fI a 4), .int (S.fI a 5), .int (S.fI a 6), va_rf (S.fA a 7), .int (S.fI a 8), .int (S.fI a 9), .int (S.fI a 10), .int (S.fI a 11), .int (S.fI a 12), va_rf (S.fA a 13), .int (S.fI a 14), .int (S.fI a 15), va_rf (S.fA a 16)]) else if S.K a = 4 then .inr (6, [va_rf (S.fA a 0), va_rf (S.fA a 1), va_rf (S.fA a 2), va_rf (S.fA a 3), va_rf (S.fA a 4), va_rf (S.fA a 5), va_rf (S.fA a 6), va_rf (S.fA a 7)]) else if S.K a = 5 then .inr (7, [va_rf (S.fA a 0), va_rf (S.fA a 1), va_rf (S.fA a 2), .int (S.fI a 3), .int (S.fI a 4), .int (S.fI a 5), .long (S.fJ a 6)]) else if S.K a = 6 then .inr (8, [va_rf (S.fA a 0), va_rf (S.fA a 1), va_rf (S.fA a 2), va_rf (S.fA a 3), va_rf (S.fA a 4), va_rf (S.fA a 5), va_rf (S.fA a 6), .int (S.fI a 7)]) else if S.K a = 7 then .inr (9, [va_rf (S.fA a 0), va_rf (S.fA a 1), va_rf (S.fA a 2), va_rf (S.fA a 3), va_rf (S.fA a 4), va_rf (S.fA a 5), va_rf (S.fA a 6), va_rf (S.fA a 7), .int (S.fI a 8), .int (S.fI a 9), .int (S.fI a 10)]) else if S.K a = 8 then .inr (10, [va_rf (S.fA a 0), va_rf (S.fA a 1), va_rf (S.fA a 2), .int (S.fI a 3), va_rf (S.fA a 4), va_rf (S.fA a 5), va_rf (S.fA a 6), va_rf (S.fA a 7), .int (S.fI a 8)]) else if S.K a = 9 then .inr (11, [va_rf (S.fA a 0), .int (S.fI a 1)]) else if S.K a = 10 then .inr (12, [va_rf (S.fA a 0), va_rf (S.fA a 1), va_rf (S.fA a 2), va_rf (S.fA a 3), va_rf (S.fA a 4), va_rf (S.fA a 5), va_rf (S.fA a 6), va_rf (S.fA a 7), va_rf (S.fA a 8), .int (S.fI a 9), .int (S.fI a 10), .int (S.fI a 11)]) else if S.K a = 11 then .inr (13, [va_rf (S.fA a 0), va_rf (S.fA a 1), .int (S.fI a 2), va_rf (S.fA a 3), va_rf (S.fA a 4), va_rf (S.fA a 5), va_rf (S.fA a 6), va_rf (S.fA a 7), va_rf (S.fA a 8), .int (S.fI a 9), .int (S.fI a 10), va_rf (S.fA a 11), va_rf (S.fA a 12), .int (S.fI a 13), va_rf (S.fA a 14), .int (S.fI a 15), va_rf (S.fA a 16), .int (S.fI a 17), .int (S.fI a 18)]) else if S.K a = 12 then .inl (cy 0, S.len a, .inl (S.rI a)) else if S.K a = 13 then .inl (cy 1, S.len a, .inl (S.rI a)) else if S.K a = 14 then .inl (cy 2, S.len a, .inr (.inl (S.rJ a))) else if S.K a = 15 then .inl (cy 3, S.len a, .inr (.inr (.inr (.inr (S.rA a))))) else if S.K a = 16 then .inl (cy 4, S.len a, .inr (.inr (.inr (.inr (S.rA a))))) else if S.K a = 17 then .inl (cy 5, S.len a, .inr (.inr (.inr (.inr (S.rA a))))) else if S.K a = 18 then .inl (cy 6, S.len a, .inr (.inr (.inr (.inr (S.rA a))))) else .inl (cy 0, 0, .inl fun _ => 0)
abbrev wkTys (cy : Nat → ClassId) : List (ClassId × FieldType) := [(cy 0, .char), (cy 1, .int), (cy 2, .long), (cy 3, .object "Witnessworks$Claim"), (cy 4, .object "Witnessworks$Entry"), (cy 5, .array .int), (cy 6, .array .long)]
theorem wAt_0 (cy : Nat → ClassId) (S : wPS) {a : Nat} (h : S.K a = 0) : wkF cy S a = .inr (2, [.int (S.fI a 0), .int (S.fI a 1), .int (S.fI a 2), va_rf (S.fA a 3)]) := by simp [wkF, h]
theorem wAt_1 (cy : Nat → ClassId) (S : wPS) {a : Nat} (h : S.K a = 1) : wkF cy S a = .inr (3, [va_rf (S.fA a 0), va_rf (S.fA a 1), .int (S.fI a 2), .int (S.fI a 3), .int (S.fI a 4), .int (S.fI a 5), .int (S.fI a 6)]) := by simp [wkF, h]
theorem wAt_2 (cy : Nat → ClassId) (S : wPS) {a : Nat} (h : S.K a = 2) : wkF cy S a = .inr (4, [va_rf (S.fA a 0), va_rf (S.fA a 1), va_rf (S.fA a 2), va_rf (S.fA a 3), va_rf (S.fA a 4), va_rf (S.fA a 5), va_rf (S.fA a 6), va_rf (S.fA a 7), .int (S.fI a 8), .int (S.fI a 9)]) := by simp [wkF, h]
theorem wAt_3 (cy : Nat → ClassId) (S : wPS) {a : Nat} (h : S.K a = 3) : wkF cy S a = .inr (5, [.int (S.fI a 0), .int (S.fI a 1), .int (S.fI a 2), .int (S.fI a 3), .int (S.fI a 4), .int (S.fI a 5), .int (S.fI a 6), va_rf (S.fA a 7), .int (S.fI a 8), .int (S.fI a 9), .int (S.fI a 10), .int (S.fI a 11), .int (S.fI a 12), va_rf (S.fA a 13), .int (S.fI a 14), .int (S.fI a 15), va_rf (S.fA a 16)]) := by simp [wkF, h]
theorem wAt_4 (cy : Nat → ClassId) (S : wPS) {a : Nat} (h : S.K a = 4) : wkF cy S a = .inr (6, [va_rf (S.fA a 0), va_rf (S.fA a 1), va_rf (S.fA a 2), va_rf (S.fA a 3), va_rf (S.fA a 4), va_rf (S.fA a 5), va_rf (S.fA a 6), va_rf (S.fA a 7)]) := by simp [wkF, h]
theorem wAt_5 (cy : Nat → ClassId) (S : wPS) {a : Nat} (h : S.K a = 5) : wkF cy S a = .inr (7, [va_rf (S.fA a 0), va_rf (S.fA a 1), va_rf (S.fA a 2), .int (S.fI a 3), .int (S.fI a 4), .int (S.fI a 5), .long (S.fJ a 6)]) := by simp [wkF, h]
theorem wAt_6 (cy : Nat → ClassId) (S : wPS) {a : Nat} (h : S.K a = 6) : wkF cy S a = .inr (8, [va_rf (S.fA a 0), va_rf (S.fA a 1), va_rf (S.fA a 2), va_rf (S.fA a 3), va_rf (S.fA a 4), va_rf (S.fA a 5), va_rf (S.fA a 6), .int (S.fI a 7)]) := by simp [wkF, h]
theorem wAt_7 (cy : Nat → ClassId) (S : wPS) {a : Nat} (h : S.K a = 7) : wkF cy S a = .inr (9, [va_rf (S.fA a 0), va_rf (S.fA a 1), va_rf (S.fA a 2), va_rf (S.fA a 3), va_rf (S.fA a 4), va_rf (S.fA a 5), va_rf (S.fA a 6), va_rf (S.fA a 7), .int (S.fI a 8), .int (S.fI a 9), .int (S.fI a 10)]) := by simp [wkF, h]
theorem wAt_8 (cy : Nat → ClassId) (S : wPS) {a : Nat} (h : S.K a = 8) : wkF cy S a = .inr (10, [va_rf (S.fA a 0), va_rf (S.fA a 1), va_rf (S.fA a 2), .int (S.fI a 3), va_rf (S.fA a 4), va_rf (S.fA a 5), va_rf (S.fA a 6), va_rf (S.fA a 7), .int (S.fI a 8)]) := by simp [wkF, h]
theorem wAt_9 (cy : Nat → ClassId) (S : wPS) {a : Nat} (h : S.K a = 9) : wkF cy S a = .inr (11, [va_rf (S.fA a 0), .int (S.fI a 1)]) := by simp [wkF, h]
theorem wAt_10 (cy : Nat → ClassId) (S : wPS) {a : Nat} (h : S.K a = 10) : wkF cy S a = .inr (12, [va_rf (S.fA a 0), va_rf (S.fA a 1), va_rf (S.fA a 2), va_rf (S.fA a 3), va_rf (S.fA a 4), va_rf (S.fA a 5), va_rf (S.fA a 6), va_rf (S.fA a 7), va_rf (S.fA a 8), .int (S.fI a 9), .int (S.fI a 10), .int (S.fI a 11)]) := by simp [wkF, h]
theorem wAt_11 (cy : Nat → ClassId) (S : wPS) {a : Nat} (h : S.K a = 11) : wkF cy S a = .inr (13, [va_rf (S.fA a 0), va_rf (S.fA a 1), .int (S.fI a 2), va_rf (S.fA a 3), va_rf (S.fA a 4), va_rf (S.fA a 5), va_rf (S.fA a 6), va_rf (S.fA a 7), va_rf (S.fA a 8), .int (S.fI a 9), .int (S.fI a 10), va_rf (S.fA a 11), va_rf (S.fA a 12), .int (S.fI a 13), va_rf (S.fA a 14), .int (S.fI a 15), va_rf (S.fA a 16), .int (S.fI a 17), .int (S.fI a 18)]) := by simp [wkF, h]
theorem wAt_12 (cy : Nat → ClassId) (S : wPS) {a : Nat} (h : S.K a = 12) : wkF cy S a = .inl (cy 0, S.len a, .inl (S.rI a)) := by simp [wkF, h]
theorem wAt_13 (cy : Nat → ClassId) (S : wPS) {a : Nat} (h : S.K a = 13) : wkF cy S a = .inl (cy 1, S.len a, .inl (S.rI a)) := by simp [wkF, h]
theorem wAt_14 (cy : Nat → ClassId) (S : wPS) {a : Nat} (h : S.K a = 14) : wkF cy S a = .inl (cy 2, S.len a, .inr (.inl (S.rJ a))) := by simp [wkF, h]
theorem wAt_15 (cy : Nat → ClassId) (S : wPS) {a : Nat} (h : S.K a = 15) : wkF cy S a = .inl (cy 3, S.len a, .inr (.inr (.inr (.inr (S.rA a))))) := by simp [wkF, h]
theorem wAt_16 (cy : Nat → ClassId) (S : wPS) {a : Nat} (h : S.K a = 16) : wkF cy S a = .inl (cy 4, S.len a, .inr (.inr (.inr (.inr (S.rA a))))) := by simp [wkF, h]
theorem wAt_17 (cy : Nat → ClassId) (S : wPS) {a : Nat} (h : S.K a = 17) : wkF cy S a = .inl (cy 5, S.len a, .inr (.inr (.inr (.inr (S.rA a))))) := by simp [wkF, h]
theorem wAt_18 (cy : Nat → ClassId) (S : wPS) {a : Nat} (h : S.K a = 18) : wkF cy S a = .inl (cy 6, S.len a, .inr (.inr (.inr (.inr (S.rA a))))) := by simp [wkF, h]
abbrev gClaim_person (S : wPS) (a : Nat) : Int32 := S.fI a 0
abbrev wu_Claim_person (S : wPS) (a : Nat) (v : Int32) : wPS := wuF S a 0 v
theorem wSt_0_0 (cy : Nat → ClassId) (S : wPS) {a : Nat} (h : S.K a = 0) (v : Int32) (b : Nat) : va_up (wkF cy S) a (.inr (2, [.int v, .int (S.fI a 1), .int (S.fI a 2), va_rf (S.fA a 3)])) b = wkF cy (wuF S a 0 v) b := by
  by_cases hb : b = a
  · subst hb
    have h : S.2.1 b = 0 := h
    simp [wkF, va_up, h, wPS.L, wPS.K, wPS.fI, wPS.fJ, wPS.fA, wPS.len, wPS.rI, wPS.rJ, wPS.rA, wuF, wuG, wuA, wuRI, wuRJ, wuRA, wnO, wnI, wnJ, wnA]
  · simp [wkF, va_up, hb, wPS.L, wPS.K, wPS.fI, wPS.fJ, wPS.fA, wPS.len, wPS.rI, wPS.rJ, wPS.rA, wuF, wuG, wuA, wuRI, wuRJ, wuRA, wnO, wnI, wnJ, wnA]
abbrev gClaim_entry (S : wPS) (a : Nat) : Int32 := S.fI a 1
abbrev wu_Claim_entry (S : wPS) (a : Nat) (v : Int32) : wPS := wuF S a 1 v
theorem wSt_0_1 (cy : Nat → ClassId) (S : wPS) {a : Nat} (h : S.K a = 0) (v : Int32) (b : Nat) : va_up (wkF cy S) a (.inr (2, [.int (S.fI a 0), .int v, .int (S.fI a 2), va_rf (S.fA a 3)])) b = wkF cy (wuF S a 1 v) b := by
  by_cases hb : b = a
  · subst hb
    have h : S.2.1 b = 0 := h
    simp [wkF, va_up, h, wPS.L, wPS.K, wPS.fI, wPS.fJ, wPS.fA, wPS.len, wPS.rI, wPS.rJ, wPS.rA, wuF, wuG, wuA, wuRI, wuRJ, wuRA, wnO, wnI, wnJ, wnA]
  · simp [wkF, va_up, hb, wPS.L, wPS.K, wPS.fI, wPS.fJ, wPS.fA, wPS.len, wPS.rI, wPS.rJ, wPS.rA, wuF, wuG, wuA, wuRI, wuRJ, wuRA, wnO, wnI, wnJ, wnA]
abbrev gClaim_isWitness (S : wPS) (a : Nat) : Int32 := S.fI a 2
abbrev wu_Claim_isWitness (S : wPS) (a : Nat) (v : Int32) : wPS := wuF S a 2 v
theorem wSt_0_2 (cy : Nat → ClassId) (S : wPS) {a : Nat} (h : S.K a = 0) (v : Int32) (b : Nat) : va_up (wkF cy S) a (.inr (2, [.int (S.fI a 0), .int (S.fI a 1), .int v, va_rf (S.fA a 3)])) b = wkF cy (wuF S a 2 v) b := by
  by_cases hb : b = a
  · subst hb
    have h : S.2.1 b = 0 := h
    simp [wkF, va_up, h, wPS.L, wPS.K, wPS.fI, wPS.fJ, wPS.fA, wPS.len, wPS.rI, wPS.rJ, wPS.rA, wuF, wuG, wuA, wuRI, wuRJ, wuRA, wnO, wnI, wnJ, wnA]
  · simp [wkF, va_up, hb, wPS.L, wPS.K, wPS.fI, wPS.fJ, wPS.fA, wPS.len, wPS.rI, wPS.rJ, wPS.rA, wuF, wuG, wuA, wuRI, wuRJ, wuRA, wnO, wnI, wnJ, wnA]
abbrev gClaim_row (S : wPS) (a : Nat) : Option Nat := S.fA a 3
abbrev wu_Claim_row (S : wPS) (a : Nat) (v : Option Nat) : wPS := wuA S a 3 v
theorem wSt_0_3 (cy : Nat → ClassId) (S : wPS) {a : Nat} (h : S.K a = 0) (v : Option Nat) (b : Nat) : va_up (wkF cy S) a (.inr (2, [.int (S.fI a 0), .int (S.fI a 1), .int (S.fI a 2), va_rf v])) b = wkF cy (wuA S a 3 v) b := by
  by_cases hb : b = a
  · subst hb
    have h : S.2.1 b = 0 := h
    simp [wkF, va_up, h, wPS.L, wPS.K, wPS.fI, wPS.fJ, wPS.fA, wPS.len, wPS.rI, wPS.rJ, wPS.rA, wuF, wuG, wuA, wuRI, wuRJ, wuRA, wnO, wnI, wnJ, wnA]
  · simp [wkF, va_up, hb, wPS.L, wPS.K, wPS.fI, wPS.fJ, wPS.fA, wPS.len, wPS.rI, wPS.rJ, wPS.rA, wuF, wuG, wuA, wuRI, wuRJ, wuRA, wnO, wnI, wnJ, wnA]
theorem wNw_0 (cy : Nat → ClassId) (S : wPS) (a b : Nat) : va_up (wkF cy S) a (.inr (2, [.int 0, .int 0, .int 0, .null])) b = wkF cy (wnO S a 0) b := by
  by_cases hb : b = a
  · subst hb
    simp [wkF, va_up, va_rf, wPS.L, wPS.K, wPS.fI, wPS.fJ, wPS.fA, wPS.len, wPS.rI, wPS.rJ, wPS.rA, wuF, wuG, wuA, wuRI, wuRJ, wuRA, wnO, wnI, wnJ, wnA]
  · simp [wkF, va_up, hb, wPS.L, wPS.K, wPS.fI, wPS.fJ, wPS.fA, wPS.len, wPS.rI, wPS.rJ, wPS.rA, wuF, wuG, wuA, wuRI, wuRJ, wuRA, wnO, wnI, wnJ, wnA]
abbrev gClauses_stack (S : wPS) (a : Nat) : Option Nat := S.fA a 0
abbrev wu_Clauses_stack (S : wPS) (a : Nat) (v : Option Nat) : wPS := wuA S a 0 v
theorem wSt_1_0 (cy : Nat → ClassId) (S : wPS) {a : Nat} (h : S.K a = 1) (v : Option Nat) (b : Nat) : va_up (wkF cy S) a (.inr (3, [va_rf v, va_rf (S.fA a 1), .int (S.fI a 2), .int (S.fI a 3), .int (S.fI a 4), .int (S.fI a 5), .int (S.fI a 6)])) b = wkF cy (wuA S a 0 v) b := by
  by_cases hb : b = a
  · subst hb
    have h : S.2.1 b = 1 := h
    simp [wkF, va_up, h, wPS.L, wPS.K, wPS.fI, wPS.fJ, wPS.fA, wPS.len, wPS.rI, wPS.rJ, wPS.rA, wuF, wuG, wuA, wuRI, wuRJ, wuRA, wnO, wnI, wnJ, wnA]
  · simp [wkF, va_up, hb, wPS.L, wPS.K, wPS.fI, wPS.fJ, wPS.fA, wPS.len, wPS.rI, wPS.rJ, wPS.rA, wuF, wuG, wuA, wuRI, wuRJ, wuRA, wnO, wnI, wnJ, wnA]
abbrev gClauses_codes (S : wPS) (a : Nat) : Option Nat := S.fA a 1
abbrev wu_Clauses_codes (S : wPS) (a : Nat) (v : Option Nat) : wPS := wuA S a 1 v
theorem wSt_1_1 (cy : Nat → ClassId) (S : wPS) {a : Nat} (h : S.K a = 1) (v : Option Nat) (b : Nat) : va_up (wkF cy S) a (.inr (3, [va_rf (S.fA a 0), va_rf v, .int (S.fI a 2), .int (S.fI a 3), .int (S.fI a 4), .int (S.fI a 5), .int (S.fI a 6)])) b = wkF cy (wuA S a 1 v) b := by
  by_cases hb : b = a
  · subst hb
    have h : S.2.1 b = 1 := h
    simp [wkF, va_up, h, wPS.L, wPS.K, wPS.fI, wPS.fJ, wPS.fA, wPS.len, wPS.rI, wPS.rJ, wPS.rA, wuF, wuG, wuA, wuRI, wuRJ, wuRA, wnO, wnI, wnJ, wnA]
  · simp [wkF, va_up, hb, wPS.L, wPS.K, wPS.fI, wPS.fJ, wPS.fA, wPS.len, wPS.rI, wPS.rJ, wPS.rA, wuF, wuG, wuA, wuRI, wuRJ, wuRA, wnO, wnI, wnJ, wnA]
abbrev gClauses_codeCount (S : wPS) (a : Nat) : Int32 := S.fI a 2
abbrev wu_Clauses_codeCount (S : wPS) (a : Nat) (v : Int32) : wPS := wuF S a 2 v
theorem wSt_1_2 (cy : Nat → ClassId) (S : wPS) {a : Nat} (h : S.K a = 1) (v : Int32) (b : Nat) : va_up (wkF cy S) a (.inr (3, [va_rf (S.fA a 0), va_rf (S.fA a 1), .int v, .int (S.fI a 3), .int (S.fI a 4), .int (S.fI a 5), .int (S.fI a 6)])) b = wkF cy (wuF S a 2 v) b := by
  by_cases hb : b = a
  · subst hb
    have h : S.2.1 b = 1 := h
    simp [wkF, va_up, h, wPS.L, wPS.K, wPS.fI, wPS.fJ, wPS.fA, wPS.len, wPS.rI, wPS.rJ, wPS.rA, wuF, wuG, wuA, wuRI, wuRJ, wuRA, wnO, wnI, wnJ, wnA]
  · simp [wkF, va_up, hb, wPS.L, wPS.K, wPS.fI, wPS.fJ, wPS.fA, wPS.len, wPS.rI, wPS.rJ, wPS.rA, wuF, wuG, wuA, wuRI, wuRJ, wuRA, wnO, wnI, wnJ, wnA]
abbrev gClauses_stackCount (S : wPS) (a : Nat) : Int32 := S.fI a 3
abbrev wu_Clauses_stackCount (S : wPS) (a : Nat) (v : Int32) : wPS := wuF S a 3 v
theorem wSt_1_3 (cy : Nat → ClassId) (S : wPS) {a : Nat} (h : S.K a = 1) (v : Int32) (b : Nat) : va_up (wkF cy S) a (.inr (3, [va_rf (S.fA a 0), va_rf (S.fA a 1), .int (S.fI a 2), .int v, .int (S.fI a 4), .int (S.fI a 5), .int (S.fI a 6)])) b = wkF cy (wuF S a 3 v) b := by
  by_cases hb : b = a
  · subst hb
    have h : S.2.1 b = 1 := h
    simp [wkF, va_up, h, wPS.L, wPS.K, wPS.fI, wPS.fJ, wPS.fA, wPS.len, wPS.rI, wPS.rJ, wPS.rA, wuF, wuG, wuA, wuRI, wuRJ, wuRA, wnO, wnI, wnJ, wnA]
  · simp [wkF, va_up, hb, wPS.L, wPS.K, wPS.fI, wPS.fJ, wPS.fA, wPS.len, wPS.rI, wPS.rJ, wPS.rA, wuF, wuG, wuA, wuRI, wuRJ, wuRA, wnO, wnI, wnJ, wnA]
abbrev gClauses_depth (S : wPS) (a : Nat) : Int32 := S.fI a 4
abbrev wu_Clauses_depth (S : wPS) (a : Nat) (v : Int32) : wPS := wuF S a 4 v
theorem wSt_1_4 (cy : Nat → ClassId) (S : wPS) {a : Nat} (h : S.K a = 1) (v : Int32) (b : Nat) : va_up (wkF cy S) a (.inr (3, [va_rf (S.fA a 0), va_rf (S.fA a 1), .int (S.fI a 2), .int (S.fI a 3), .int v, .int (S.fI a 5), .int (S.fI a 6)])) b = wkF cy (wuF S a 4 v) b := by
  by_cases hb : b = a
  · subst hb
    have h : S.2.1 b = 1 := h
    simp [wkF, va_up, h, wPS.L, wPS.K, wPS.fI, wPS.fJ, wPS.fA, wPS.len, wPS.rI, wPS.rJ, wPS.rA, wuF, wuG, wuA, wuRI, wuRJ, wuRA, wnO, wnI, wnJ, wnA]
  · simp [wkF, va_up, hb, wPS.L, wPS.K, wPS.fI, wPS.fJ, wPS.fA, wPS.len, wPS.rI, wPS.rJ, wPS.rA, wuF, wuG, wuA, wuRI, wuRJ, wuRA, wnO, wnI, wnJ, wnA]
abbrev gClauses_ones (S : wPS) (a : Nat) : Int32 := S.fI a 5
abbrev wu_Clauses_ones (S : wPS) (a : Nat) (v : Int32) : wPS := wuF S a 5 v
theorem wSt_1_5 (cy : Nat → ClassId) (S : wPS) {a : Nat} (h : S.K a = 1) (v : Int32) (b : Nat) : va_up (wkF cy S) a (.inr (3, [va_rf (S.fA a 0), va_rf (S.fA a 1), .int (S.fI a 2), .int (S.fI a 3), .int (S.fI a 4), .int v, .int (S.fI a 6)])) b = wkF cy (wuF S a 5 v) b := by
  by_cases hb : b = a
  · subst hb
    have h : S.2.1 b = 1 := h
    simp [wkF, va_up, h, wPS.L, wPS.K, wPS.fI, wPS.fJ, wPS.fA, wPS.len, wPS.rI, wPS.rJ, wPS.rA, wuF, wuG, wuA, wuRI, wuRJ, wuRA, wnO, wnI, wnJ, wnA]
  · simp [wkF, va_up, hb, wPS.L, wPS.K, wPS.fI, wPS.fJ, wPS.fA, wPS.len, wPS.rI, wPS.rJ, wPS.rA, wuF, wuG, wuA, wuRI, wuRJ, wuRA, wnO, wnI, wnJ, wnA]
abbrev gClauses_isAtEnd (S : wPS) (a : Nat) : Int32 := S.fI a 6
abbrev wu_Clauses_isAtEnd (S : wPS) (a : Nat) (v : Int32) : wPS := wuF S a 6 v
theorem wSt_1_6 (cy : Nat → ClassId) (S : wPS) {a : Nat} (h : S.K a = 1) (v : Int32) (b : Nat) : va_up (wkF cy S) a (.inr (3, [va_rf (S.fA a 0), va_rf (S.fA a 1), .int (S.fI a 2), .int (S.fI a 3), .int (S.fI a 4), .int (S.fI a 5), .int v])) b = wkF cy (wuF S a 6 v) b := by
  by_cases hb : b = a
  · subst hb
    have h : S.2.1 b = 1 := h
    simp [wkF, va_up, h, wPS.L, wPS.K, wPS.fI, wPS.fJ, wPS.fA, wPS.len, wPS.rI, wPS.rJ, wPS.rA, wuF, wuG, wuA, wuRI, wuRJ, wuRA, wnO, wnI, wnJ, wnA]
  · simp [wkF, va_up, hb, wPS.L, wPS.K, wPS.fI, wPS.fJ, wPS.fA, wPS.len, wPS.rI, wPS.rJ, wPS.rA, wuF, wuG, wuA, wuRI, wuRJ, wuRA, wnO, wnI, wnJ, wnA]
theorem wNw_1 (cy : Nat → ClassId) (S : wPS) (a b : Nat) : va_up (wkF cy S) a (.inr (3, [.null, .null, .int 0, .int 0, .int 0, .int 0, .int 0])) b = wkF cy (wnO S a 1) b := by
  by_cases hb : b = a
  · subst hb
    simp [wkF, va_up, va_rf, wPS.L, wPS.K, wPS.fI, wPS.fJ, wPS.fA, wPS.len, wPS.rI, wPS.rJ, wPS.rA, wuF, wuG, wuA, wuRI, wuRJ, wuRA, wnO, wnI, wnJ, wnA]
  · simp [wkF, va_up, hb, wPS.L, wPS.K, wPS.fI, wPS.fJ, wPS.fA, wPS.len, wPS.rI, wPS.rJ, wPS.rA, wuF, wuG, wuA, wuRI, wuRJ, wuRA, wnO, wnI, wnJ, wnA]
abbrev gDrawings_near (S : wPS) (a : Nat) : Option Nat := S.fA a 0
abbrev wu_Drawings_near (S : wPS) (a : Nat) (v : Option Nat) : wPS := wuA S a 0 v
theorem wSt_2_0 (cy : Nat → ClassId) (S : wPS) {a : Nat} (h : S.K a = 2) (v : Option Nat) (b : Nat) : va_up (wkF cy S) a (.inr (4, [va_rf v, va_rf (S.fA a 1), va_rf (S.fA a 2), va_rf (S.fA a 3), va_rf (S.fA a 4), va_rf (S.fA a 5), va_rf (S.fA a 6), va_rf (S.fA a 7), .int (S.fI a 8), .int (S.fI a 9)])) b = wkF cy (wuA S a 0 v) b := by
  by_cases hb : b = a
  · subst hb
    have h : S.2.1 b = 2 := h
    simp [wkF, va_up, h, wPS.L, wPS.K, wPS.fI, wPS.fJ, wPS.fA, wPS.len, wPS.rI, wPS.rJ, wPS.rA, wuF, wuG, wuA, wuRI, wuRJ, wuRA, wnO, wnI, wnJ, wnA]
  · simp [wkF, va_up, hb, wPS.L, wPS.K, wPS.fI, wPS.fJ, wPS.fA, wPS.len, wPS.rI, wPS.rJ, wPS.rA, wuF, wuG, wuA, wuRI, wuRJ, wuRA, wnO, wnI, wnJ, wnA]
abbrev gDrawings_used (S : wPS) (a : Nat) : Option Nat := S.fA a 1
abbrev wu_Drawings_used (S : wPS) (a : Nat) (v : Option Nat) : wPS := wuA S a 1 v
theorem wSt_2_1 (cy : Nat → ClassId) (S : wPS) {a : Nat} (h : S.K a = 2) (v : Option Nat) (b : Nat) : va_up (wkF cy S) a (.inr (4, [va_rf (S.fA a 0), va_rf v, va_rf (S.fA a 2), va_rf (S.fA a 3), va_rf (S.fA a 4), va_rf (S.fA a 5), va_rf (S.fA a 6), va_rf (S.fA a 7), .int (S.fI a 8), .int (S.fI a 9)])) b = wkF cy (wuA S a 1 v) b := by
  by_cases hb : b = a
  · subst hb
    have h : S.2.1 b = 2 := h
    simp [wkF, va_up, h, wPS.L, wPS.K, wPS.fI, wPS.fJ, wPS.fA, wPS.len, wPS.rI, wPS.rJ, wPS.rA, wuF, wuG, wuA, wuRI, wuRJ, wuRA, wnO, wnI, wnJ, wnA]
  · simp [wkF, va_up, hb, wPS.L, wPS.K, wPS.fI, wPS.fJ, wPS.fA, wPS.len, wPS.rI, wPS.rJ, wPS.rA, wuF, wuG, wuA, wuRI, wuRJ, wuRA, wnO, wnI, wnJ, wnA]
abbrev gDrawings_firstPlace (S : wPS) (a : Nat) : Option Nat := S.fA a 2
abbrev wu_Drawings_firstPlace (S : wPS) (a : Nat) (v : Option Nat) : wPS := wuA S a 2 v
theorem wSt_2_2 (cy : Nat → ClassId) (S : wPS) {a : Nat} (h : S.K a = 2) (v : Option Nat) (b : Nat) : va_up (wkF cy S) a (.inr (4, [va_rf (S.fA a 0), va_rf (S.fA a 1), va_rf v, va_rf (S.fA a 3), va_rf (S.fA a 4), va_rf (S.fA a 5), va_rf (S.fA a 6), va_rf (S.fA a 7), .int (S.fI a 8), .int (S.fI a 9)])) b = wkF cy (wuA S a 2 v) b := by
  by_cases hb : b = a
  · subst hb
    have h : S.2.1 b = 2 := h
    simp [wkF, va_up, h, wPS.L, wPS.K, wPS.fI, wPS.fJ, wPS.fA, wPS.len, wPS.rI, wPS.rJ, wPS.rA, wuF, wuG, wuA, wuRI, wuRJ, wuRA, wnO, wnI, wnJ, wnA]
  · simp [wkF, va_up, hb, wPS.L, wPS.K, wPS.fI, wPS.fJ, wPS.fA, wPS.len, wPS.rI, wPS.rJ, wPS.rA, wuF, wuG, wuA, wuRI, wuRJ, wuRA, wnO, wnI, wnJ, wnA]
abbrev gDrawings_owner (S : wPS) (a : Nat) : Option Nat := S.fA a 3
abbrev wu_Drawings_owner (S : wPS) (a : Nat) (v : Option Nat) : wPS := wuA S a 3 v
theorem wSt_2_3 (cy : Nat → ClassId) (S : wPS) {a : Nat} (h : S.K a = 2) (v : Option Nat) (b : Nat) : va_up (wkF cy S) a (.inr (4, [va_rf (S.fA a 0), va_rf (S.fA a 1), va_rf (S.fA a 2), va_rf v, va_rf (S.fA a 4), va_rf (S.fA a 5), va_rf (S.fA a 6), va_rf (S.fA a 7), .int (S.fI a 8), .int (S.fI a 9)])) b = wkF cy (wuA S a 3 v) b := by
  by_cases hb : b = a
  · subst hb
    have h : S.2.1 b = 2 := h
    simp [wkF, va_up, h, wPS.L, wPS.K, wPS.fI, wPS.fJ, wPS.fA, wPS.len, wPS.rI, wPS.rJ, wPS.rA, wuF, wuG, wuA, wuRI, wuRJ, wuRA, wnO, wnI, wnJ, wnA]
  · simp [wkF, va_up, hb, wPS.L, wPS.K, wPS.fI, wPS.fJ, wPS.fA, wPS.len, wPS.rI, wPS.rJ, wPS.rA, wuF, wuG, wuA, wuRI, wuRJ, wuRA, wnO, wnI, wnJ, wnA]
abbrev gDrawings_ring (S : wPS) (a : Nat) : Option Nat := S.fA a 4
abbrev wu_Drawings_ring (S : wPS) (a : Nat) (v : Option Nat) : wPS := wuA S a 4 v
theorem wSt_2_4 (cy : Nat → ClassId) (S : wPS) {a : Nat} (h : S.K a = 2) (v : Option Nat) (b : Nat) : va_up (wkF cy S) a (.inr (4, [va_rf (S.fA a 0), va_rf (S.fA a 1), va_rf (S.fA a 2), va_rf (S.fA a 3), va_rf v, va_rf (S.fA a 5), va_rf (S.fA a 6), va_rf (S.fA a 7), .int (S.fI a 8), .int (S.fI a 9)])) b = wkF cy (wuA S a 4 v) b := by
  by_cases hb : b = a
  · subst hb
    have h : S.2.1 b = 2 := h
    simp [wkF, va_up, h, wPS.L, wPS.K, wPS.fI, wPS.fJ, wPS.fA, wPS.len, wPS.rI, wPS.rJ, wPS.rA, wuF, wuG, wuA, wuRI, wuRJ, wuRA, wnO, wnI, wnJ, wnA]
  · simp [wkF, va_up, hb, wPS.L, wPS.K, wPS.fI, wPS.fJ, wPS.fA, wPS.len, wPS.rI, wPS.rJ, wPS.rA, wuF, wuG, wuA, wuRI, wuRJ, wuRA, wnO, wnI, wnJ, wnA]
abbrev gDrawings_spot (S : wPS) (a : Nat) : Option Nat := S.fA a 5
abbrev wu_Drawings_spot (S : wPS) (a : Nat) (v : Option Nat) : wPS := wuA S a 5 v
theorem wSt_2_5 (cy : Nat → ClassId) (S : wPS) {a : Nat} (h : S.K a = 2) (v : Option Nat) (b : Nat) : va_up (wkF cy S) a (.inr (4, [va_rf (S.fA a 0), va_rf (S.fA a 1), va_rf (S.fA a 2), va_rf (S.fA a 3), va_rf (S.fA a 4), va_rf v, va_rf (S.fA a 6), va_rf (S.fA a 7), .int (S.fI a 8), .int (S.fI a 9)])) b = wkF cy (wuA S a 5 v) b := by
  by_cases hb : b = a
  · subst hb
    have h : S.2.1 b = 2 := h
    simp [wkF, va_up, h, wPS.L, wPS.K, wPS.fI, wPS.fJ, wPS.fA, wPS.len, wPS.rI, wPS.rJ, wPS.rA, wuF, wuG, wuA, wuRI, wuRJ, wuRA, wnO, wnI, wnJ, wnA]
  · simp [wkF, va_up, hb, wPS.L, wPS.K, wPS.fI, wPS.fJ, wPS.fA, wPS.len, wPS.rI, wPS.rJ, wPS.rA, wuF, wuG, wuA, wuRI, wuRJ, wuRA, wnO, wnI, wnJ, wnA]
abbrev gDrawings_walksDue (S : wPS) (a : Nat) : Option Nat := S.fA a 6
abbrev wu_Drawings_walksDue (S : wPS) (a : Nat) (v : Option Nat) : wPS := wuA S a 6 v
theorem wSt_2_6 (cy : Nat → ClassId) (S : wPS) {a : Nat} (h : S.K a = 2) (v : Option Nat) (b : Nat) : va_up (wkF cy S) a (.inr (4, [va_rf (S.fA a 0), va_rf (S.fA a 1), va_rf (S.fA a 2), va_rf (S.fA a 3), va_rf (S.fA a 4), va_rf (S.fA a 5), va_rf v, va_rf (S.fA a 7), .int (S.fI a 8), .int (S.fI a 9)])) b = wkF cy (wuA S a 6 v) b := by
  by_cases hb : b = a
  · subst hb
    have h : S.2.1 b = 2 := h
    simp [wkF, va_up, h, wPS.L, wPS.K, wPS.fI, wPS.fJ, wPS.fA, wPS.len, wPS.rI, wPS.rJ, wPS.rA, wuF, wuG, wuA, wuRI, wuRJ, wuRA, wnO, wnI, wnJ, wnA]
  · simp [wkF, va_up, hb, wPS.L, wPS.K, wPS.fI, wPS.fJ, wPS.fA, wPS.len, wPS.rI, wPS.rJ, wPS.rA, wuF, wuG, wuA, wuRI, wuRJ, wuRA, wnO, wnI, wnJ, wnA]
abbrev gDrawings_ways (S : wPS) (a : Nat) : Option Nat := S.fA a 7
abbrev wu_Drawings_ways (S : wPS) (a : Nat) (v : Option Nat) : wPS := wuA S a 7 v
theorem wSt_2_7 (cy : Nat → ClassId) (S : wPS) {a : Nat} (h : S.K a = 2) (v : Option Nat) (b : Nat) : va_up (wkF cy S) a (.inr (4, [va_rf (S.fA a 0), va_rf (S.fA a 1), va_rf (S.fA a 2), va_rf (S.fA a 3), va_rf (S.fA a 4), va_rf (S.fA a 5), va_rf (S.fA a 6), va_rf v, .int (S.fI a 8), .int (S.fI a 9)])) b = wkF cy (wuA S a 7 v) b := by
  by_cases hb : b = a
  · subst hb
    have h : S.2.1 b = 2 := h
    simp [wkF, va_up, h, wPS.L, wPS.K, wPS.fI, wPS.fJ, wPS.fA, wPS.len, wPS.rI, wPS.rJ, wPS.rA, wuF, wuG, wuA, wuRI, wuRJ, wuRA, wnO, wnI, wnJ, wnA]
  · simp [wkF, va_up, hb, wPS.L, wPS.K, wPS.fI, wPS.fJ, wPS.fA, wPS.len, wPS.rI, wPS.rJ, wPS.rA, wuF, wuG, wuA, wuRI, wuRJ, wuRA, wnO, wnI, wnJ, wnA]
abbrev gDrawings_nodeCount (S : wPS) (a : Nat) : Int32 := S.fI a 8
abbrev wu_Drawings_nodeCount (S : wPS) (a : Nat) (v : Int32) : wPS := wuF S a 8 v
theorem wSt_2_8 (cy : Nat → ClassId) (S : wPS) {a : Nat} (h : S.K a = 2) (v : Int32) (b : Nat) : va_up (wkF cy S) a (.inr (4, [va_rf (S.fA a 0), va_rf (S.fA a 1), va_rf (S.fA a 2), va_rf (S.fA a 3), va_rf (S.fA a 4), va_rf (S.fA a 5), va_rf (S.fA a 6), va_rf (S.fA a 7), .int v, .int (S.fI a 9)])) b = wkF cy (wuF S a 8 v) b := by
  by_cases hb : b = a
  · subst hb
    have h : S.2.1 b = 2 := h
    simp [wkF, va_up, h, wPS.L, wPS.K, wPS.fI, wPS.fJ, wPS.fA, wPS.len, wPS.rI, wPS.rJ, wPS.rA, wuF, wuG, wuA, wuRI, wuRJ, wuRA, wnO, wnI, wnJ, wnA]
  · simp [wkF, va_up, hb, wPS.L, wPS.K, wPS.fI, wPS.fJ, wPS.fA, wPS.len, wPS.rI, wPS.rJ, wPS.rA, wuF, wuG, wuA, wuRI, wuRJ, wuRA, wnO, wnI, wnJ, wnA]
abbrev gDrawings_places (S : wPS) (a : Nat) : Int32 := S.fI a 9
abbrev wu_Drawings_places (S : wPS) (a : Nat) (v : Int32) : wPS := wuF S a 9 v
theorem wSt_2_9 (cy : Nat → ClassId) (S : wPS) {a : Nat} (h : S.K a = 2) (v : Int32) (b : Nat) : va_up (wkF cy S) a (.inr (4, [va_rf (S.fA a 0), va_rf (S.fA a 1), va_rf (S.fA a 2), va_rf (S.fA a 3), va_rf (S.fA a 4), va_rf (S.fA a 5), va_rf (S.fA a 6), va_rf (S.fA a 7), .int (S.fI a 8), .int v])) b = wkF cy (wuF S a 9 v) b := by
  by_cases hb : b = a
  · subst hb
    have h : S.2.1 b = 2 := h
    simp [wkF, va_up, h, wPS.L, wPS.K, wPS.fI, wPS.fJ, wPS.fA, wPS.len, wPS.rI, wPS.rJ, wPS.rA, wuF, wuG, wuA, wuRI, wuRJ, wuRA, wnO, wnI, wnJ, wnA]
  · simp [wkF, va_up, hb, wPS.L, wPS.K, wPS.fI, wPS.fJ, wPS.fA, wPS.len, wPS.rI, wPS.rJ, wPS.rA, wuF, wuG, wuA, wuRI, wuRJ, wuRA, wnO, wnI, wnJ, wnA]
theorem wNw_2 (cy : Nat → ClassId) (S : wPS) (a b : Nat) : va_up (wkF cy S) a (.inr (4, [.null, .null, .null, .null, .null, .null, .null, .null, .int 0, .int 0])) b = wkF cy (wnO S a 2) b := by
  by_cases hb : b = a
  · subst hb
    simp [wkF, va_up, va_rf, wPS.L, wPS.K, wPS.fI, wPS.fJ, wPS.fA, wPS.len, wPS.rI, wPS.rJ, wPS.rA, wuF, wuG, wuA, wuRI, wuRJ, wuRA, wnO, wnI, wnJ, wnA]
  · simp [wkF, va_up, hb, wPS.L, wPS.K, wPS.fI, wPS.fJ, wPS.fA, wPS.len, wPS.rI, wPS.rJ, wPS.rA, wuF, wuG, wuA, wuRI, wuRJ, wuRA, wnO, wnI, wnJ, wnA]
abbrev gEntry_kind (S : wPS) (a : Nat) : Int32 := S.fI a 0
abbrev wu_Entry_kind (S : wPS) (a : Nat) (v : Int32) : wPS := wuF S a 0 v
theorem wSt_3_0 (cy : Nat → ClassId) (S : wPS) {a : Nat} (h : S.K a = 3) (v : Int32) (b : Nat) : va_up (wkF cy S) a (.inr (5, [.int v, .int (S.fI a 1), .int (S.fI a 2), .int (S.fI a 3), .int (S.fI a 4), .int (S.fI a 5), .int (S.fI a 6), va_rf (S.fA a 7), .int (S.fI a 8), .int (S.fI a 9), .int (S.fI a 10), .int (S.fI a 11), .int (S.fI a 12), va_rf (S.fA a 13), .int (S.fI a 14), .int (S.fI a 15), va_rf (S.fA a 16)])) b = wkF cy (wuF S a 0 v) b := by
  by_cases hb : b = a
  · subst hb
    have h : S.2.1 b = 3 := h
    simp [wkF, va_up, h, wPS.L, wPS.K, wPS.fI, wPS.fJ, wPS.fA, wPS.len, wPS.rI, wPS.rJ, wPS.rA, wuF, wuG, wuA, wuRI, wuRJ, wuRA, wnO, wnI, wnJ, wnA]
  · simp [wkF, va_up, hb, wPS.L, wPS.K, wPS.fI, wPS.fJ, wPS.fA, wPS.len, wPS.rI, wPS.rJ, wPS.rA, wuF, wuG, wuA, wuRI, wuRJ, wuRA, wnO, wnI, wnJ, wnA]
abbrev gEntry_size (S : wPS) (a : Nat) : Int32 := S.fI a 1
abbrev wu_Entry_size (S : wPS) (a : Nat) (v : Int32) : wPS := wuF S a 1 v
theorem wSt_3_1 (cy : Nat → ClassId) (S : wPS) {a : Nat} (h : S.K a = 3) (v : Int32) (b : Nat) : va_up (wkF cy S) a (.inr (5, [.int (S.fI a 0), .int v, .int (S.fI a 2), .int (S.fI a 3), .int (S.fI a 4), .int (S.fI a 5), .int (S.fI a 6), va_rf (S.fA a 7), .int (S.fI a 8), .int (S.fI a 9), .int (S.fI a 10), .int (S.fI a 11), .int (S.fI a 12), va_rf (S.fA a 13), .int (S.fI a 14), .int (S.fI a 15), va_rf (S.fA a 16)])) b = wkF cy (wuF S a 1 v) b := by
  by_cases hb : b = a
  · subst hb
    have h : S.2.1 b = 3 := h
    simp [wkF, va_up, h, wPS.L, wPS.K, wPS.fI, wPS.fJ, wPS.fA, wPS.len, wPS.rI, wPS.rJ, wPS.rA, wuF, wuG, wuA, wuRI, wuRJ, wuRA, wnO, wnI, wnJ, wnA]
  · simp [wkF, va_up, hb, wPS.L, wPS.K, wPS.fI, wPS.fJ, wPS.fA, wPS.len, wPS.rI, wPS.rJ, wPS.rA, wuF, wuG, wuA, wuRI, wuRJ, wuRA, wnO, wnI, wnJ, wnA]
abbrev gEntry_bound (S : wPS) (a : Nat) : Int32 := S.fI a 2
abbrev wu_Entry_bound (S : wPS) (a : Nat) (v : Int32) : wPS := wuF S a 2 v
theorem wSt_3_2 (cy : Nat → ClassId) (S : wPS) {a : Nat} (h : S.K a = 3) (v : Int32) (b : Nat) : va_up (wkF cy S) a (.inr (5, [.int (S.fI a 0), .int (S.fI a 1), .int v, .int (S.fI a 3), .int (S.fI a 4), .int (S.fI a 5), .int (S.fI a 6), va_rf (S.fA a 7), .int (S.fI a 8), .int (S.fI a 9), .int (S.fI a 10), .int (S.fI a 11), .int (S.fI a 12), va_rf (S.fA a 13), .int (S.fI a 14), .int (S.fI a 15), va_rf (S.fA a 16)])) b = wkF cy (wuF S a 2 v) b := by
  by_cases hb : b = a
  · subst hb
    have h : S.2.1 b = 3 := h
    simp [wkF, va_up, h, wPS.L, wPS.K, wPS.fI, wPS.fJ, wPS.fA, wPS.len, wPS.rI, wPS.rJ, wPS.rA, wuF, wuG, wuA, wuRI, wuRJ, wuRA, wnO, wnI, wnJ, wnA]
  · simp [wkF, va_up, hb, wPS.L, wPS.K, wPS.fI, wPS.fJ, wPS.fA, wPS.len, wPS.rI, wPS.rJ, wPS.rA, wuF, wuG, wuA, wuRI, wuRJ, wuRA, wnO, wnI, wnJ, wnA]
abbrev gEntry_leaning (S : wPS) (a : Nat) : Int32 := S.fI a 3
abbrev wu_Entry_leaning (S : wPS) (a : Nat) (v : Int32) : wPS := wuF S a 3 v
theorem wSt_3_3 (cy : Nat → ClassId) (S : wPS) {a : Nat} (h : S.K a = 3) (v : Int32) (b : Nat) : va_up (wkF cy S) a (.inr (5, [.int (S.fI a 0), .int (S.fI a 1), .int (S.fI a 2), .int v, .int (S.fI a 4), .int (S.fI a 5), .int (S.fI a 6), va_rf (S.fA a 7), .int (S.fI a 8), .int (S.fI a 9), .int (S.fI a 10), .int (S.fI a 11), .int (S.fI a 12), va_rf (S.fA a 13), .int (S.fI a 14), .int (S.fI a 15), va_rf (S.fA a 16)])) b = wkF cy (wuF S a 3 v) b := by
  by_cases hb : b = a
  · subst hb
    have h : S.2.1 b = 3 := h
    simp [wkF, va_up, h, wPS.L, wPS.K, wPS.fI, wPS.fJ, wPS.fA, wPS.len, wPS.rI, wPS.rJ, wPS.rA, wuF, wuG, wuA, wuRI, wuRJ, wuRA, wnO, wnI, wnJ, wnA]
  · simp [wkF, va_up, hb, wPS.L, wPS.K, wPS.fI, wPS.fJ, wPS.fA, wPS.len, wPS.rI, wPS.rJ, wPS.rA, wuF, wuG, wuA, wuRI, wuRJ, wuRA, wnO, wnI, wnJ, wnA]
abbrev gEntry_plus (S : wPS) (a : Nat) : Int32 := S.fI a 4
abbrev wu_Entry_plus (S : wPS) (a : Nat) (v : Int32) : wPS := wuF S a 4 v
theorem wSt_3_4 (cy : Nat → ClassId) (S : wPS) {a : Nat} (h : S.K a = 3) (v : Int32) (b : Nat) : va_up (wkF cy S) a (.inr (5, [.int (S.fI a 0), .int (S.fI a 1), .int (S.fI a 2), .int (S.fI a 3), .int v, .int (S.fI a 5), .int (S.fI a 6), va_rf (S.fA a 7), .int (S.fI a 8), .int (S.fI a 9), .int (S.fI a 10), .int (S.fI a 11), .int (S.fI a 12), va_rf (S.fA a 13), .int (S.fI a 14), .int (S.fI a 15), va_rf (S.fA a 16)])) b = wkF cy (wuF S a 4 v) b := by
  by_cases hb : b = a
  · subst hb
    have h : S.2.1 b = 3 := h
    simp [wkF, va_up, h, wPS.L, wPS.K, wPS.fI, wPS.fJ, wPS.fA, wPS.len, wPS.rI, wPS.rJ, wPS.rA, wuF, wuG, wuA, wuRI, wuRJ, wuRA, wnO, wnI, wnJ, wnA]
  · simp [wkF, va_up, hb, wPS.L, wPS.K, wPS.fI, wPS.fJ, wPS.fA, wPS.len, wPS.rI, wPS.rJ, wPS.rA, wuF, wuG, wuA, wuRI, wuRJ, wuRA, wnO, wnI, wnJ, wnA]
abbrev gEntry_origin (S : wPS) (a : Nat) : Int32 := S.fI a 5
abbrev wu_Entry_origin (S : wPS) (a : Nat) (v : Int32) : wPS := wuF S a 5 v
theorem wSt_3_5 (cy : Nat → ClassId) (S : wPS) {a : Nat} (h : S.K a = 3) (v : Int32) (b : Nat) : va_up (wkF cy S) a (.inr (5, [.int (S.fI a 0), .int (S.fI a 1), .int (S.fI a 2), .int (S.fI a 3), .int (S.fI a 4), .int v, .int (S.fI a 6), va_rf (S.fA a 7), .int (S.fI a 8), .int (S.fI a 9), .int (S.fI a 10), .int (S.fI a 11), .int (S.fI a 12), va_rf (S.fA a 13), .int (S.fI a 14), .int (S.fI a 15), va_rf (S.fA a 16)])) b = wkF cy (wuF S a 5 v) b := by
  by_cases hb : b = a
  · subst hb
    have h : S.2.1 b = 3 := h
    simp [wkF, va_up, h, wPS.L, wPS.K, wPS.fI, wPS.fJ, wPS.fA, wPS.len, wPS.rI, wPS.rJ, wPS.rA, wuF, wuG, wuA, wuRI, wuRJ, wuRA, wnO, wnI, wnJ, wnA]
  · simp [wkF, va_up, hb, wPS.L, wPS.K, wPS.fI, wPS.fJ, wPS.fA, wPS.len, wPS.rI, wPS.rJ, wPS.rA, wuF, wuG, wuA, wuRI, wuRJ, wuRA, wnO, wnI, wnJ, wnA]
abbrev gEntry_itemCount (S : wPS) (a : Nat) : Int32 := S.fI a 6
abbrev wu_Entry_itemCount (S : wPS) (a : Nat) (v : Int32) : wPS := wuF S a 6 v
theorem wSt_3_6 (cy : Nat → ClassId) (S : wPS) {a : Nat} (h : S.K a = 3) (v : Int32) (b : Nat) : va_up (wkF cy S) a (.inr (5, [.int (S.fI a 0), .int (S.fI a 1), .int (S.fI a 2), .int (S.fI a 3), .int (S.fI a 4), .int (S.fI a 5), .int v, va_rf (S.fA a 7), .int (S.fI a 8), .int (S.fI a 9), .int (S.fI a 10), .int (S.fI a 11), .int (S.fI a 12), va_rf (S.fA a 13), .int (S.fI a 14), .int (S.fI a 15), va_rf (S.fA a 16)])) b = wkF cy (wuF S a 6 v) b := by
  by_cases hb : b = a
  · subst hb
    have h : S.2.1 b = 3 := h
    simp [wkF, va_up, h, wPS.L, wPS.K, wPS.fI, wPS.fJ, wPS.fA, wPS.len, wPS.rI, wPS.rJ, wPS.rA, wuF, wuG, wuA, wuRI, wuRJ, wuRA, wnO, wnI, wnJ, wnA]
  · simp [wkF, va_up, hb, wPS.L, wPS.K, wPS.fI, wPS.fJ, wPS.fA, wPS.len, wPS.rI, wPS.rJ, wPS.rA, wuF, wuG, wuA, wuRI, wuRJ, wuRA, wnO, wnI, wnJ, wnA]
abbrev gEntry_numbers (S : wPS) (a : Nat) : Option Nat := S.fA a 7
abbrev wu_Entry_numbers (S : wPS) (a : Nat) (v : Option Nat) : wPS := wuA S a 7 v
theorem wSt_3_7 (cy : Nat → ClassId) (S : wPS) {a : Nat} (h : S.K a = 3) (v : Option Nat) (b : Nat) : va_up (wkF cy S) a (.inr (5, [.int (S.fI a 0), .int (S.fI a 1), .int (S.fI a 2), .int (S.fI a 3), .int (S.fI a 4), .int (S.fI a 5), .int (S.fI a 6), va_rf v, .int (S.fI a 8), .int (S.fI a 9), .int (S.fI a 10), .int (S.fI a 11), .int (S.fI a 12), va_rf (S.fA a 13), .int (S.fI a 14), .int (S.fI a 15), va_rf (S.fA a 16)])) b = wkF cy (wuA S a 7 v) b := by
  by_cases hb : b = a
  · subst hb
    have h : S.2.1 b = 3 := h
    simp [wkF, va_up, h, wPS.L, wPS.K, wPS.fI, wPS.fJ, wPS.fA, wPS.len, wPS.rI, wPS.rJ, wPS.rA, wuF, wuG, wuA, wuRI, wuRJ, wuRA, wnO, wnI, wnJ, wnA]
  · simp [wkF, va_up, hb, wPS.L, wPS.K, wPS.fI, wPS.fJ, wPS.fA, wPS.len, wPS.rI, wPS.rJ, wPS.rA, wuF, wuG, wuA, wuRI, wuRJ, wuRA, wnO, wnI, wnJ, wnA]
abbrev gEntry_boundNow (S : wPS) (a : Nat) : Int32 := S.fI a 8
abbrev wu_Entry_boundNow (S : wPS) (a : Nat) (v : Int32) : wPS := wuF S a 8 v
theorem wSt_3_8 (cy : Nat → ClassId) (S : wPS) {a : Nat} (h : S.K a = 3) (v : Int32) (b : Nat) : va_up (wkF cy S) a (.inr (5, [.int (S.fI a 0), .int (S.fI a 1), .int (S.fI a 2), .int (S.fI a 3), .int (S.fI a 4), .int (S.fI a 5), .int (S.fI a 6), va_rf (S.fA a 7), .int v, .int (S.fI a 9), .int (S.fI a 10), .int (S.fI a 11), .int (S.fI a 12), va_rf (S.fA a 13), .int (S.fI a 14), .int (S.fI a 15), va_rf (S.fA a 16)])) b = wkF cy (wuF S a 8 v) b := by
  by_cases hb : b = a
  · subst hb
    have h : S.2.1 b = 3 := h
    simp [wkF, va_up, h, wPS.L, wPS.K, wPS.fI, wPS.fJ, wPS.fA, wPS.len, wPS.rI, wPS.rJ, wPS.rA, wuF, wuG, wuA, wuRI, wuRJ, wuRA, wnO, wnI, wnJ, wnA]
  · simp [wkF, va_up, hb, wPS.L, wPS.K, wPS.fI, wPS.fJ, wPS.fA, wPS.len, wPS.rI, wPS.rJ, wPS.rA, wuF, wuG, wuA, wuRI, wuRJ, wuRA, wnO, wnI, wnJ, wnA]
abbrev gEntry_isSolved (S : wPS) (a : Nat) : Int32 := S.fI a 9
abbrev wu_Entry_isSolved (S : wPS) (a : Nat) (v : Int32) : wPS := wuF S a 9 v
theorem wSt_3_9 (cy : Nat → ClassId) (S : wPS) {a : Nat} (h : S.K a = 3) (v : Int32) (b : Nat) : va_up (wkF cy S) a (.inr (5, [.int (S.fI a 0), .int (S.fI a 1), .int (S.fI a 2), .int (S.fI a 3), .int (S.fI a 4), .int (S.fI a 5), .int (S.fI a 6), va_rf (S.fA a 7), .int (S.fI a 8), .int v, .int (S.fI a 10), .int (S.fI a 11), .int (S.fI a 12), va_rf (S.fA a 13), .int (S.fI a 14), .int (S.fI a 15), va_rf (S.fA a 16)])) b = wkF cy (wuF S a 9 v) b := by
  by_cases hb : b = a
  · subst hb
    have h : S.2.1 b = 3 := h
    simp [wkF, va_up, h, wPS.L, wPS.K, wPS.fI, wPS.fJ, wPS.fA, wPS.len, wPS.rI, wPS.rJ, wPS.rA, wuF, wuG, wuA, wuRI, wuRJ, wuRA, wnO, wnI, wnJ, wnA]
  · simp [wkF, va_up, hb, wPS.L, wPS.K, wPS.fI, wPS.fJ, wPS.fA, wPS.len, wPS.rI, wPS.rJ, wPS.rA, wuF, wuG, wuA, wuRI, wuRJ, wuRA, wnO, wnI, wnJ, wnA]
abbrev gEntry_solvedBound (S : wPS) (a : Nat) : Int32 := S.fI a 10
abbrev wu_Entry_solvedBound (S : wPS) (a : Nat) (v : Int32) : wPS := wuF S a 10 v
theorem wSt_3_10 (cy : Nat → ClassId) (S : wPS) {a : Nat} (h : S.K a = 3) (v : Int32) (b : Nat) : va_up (wkF cy S) a (.inr (5, [.int (S.fI a 0), .int (S.fI a 1), .int (S.fI a 2), .int (S.fI a 3), .int (S.fI a 4), .int (S.fI a 5), .int (S.fI a 6), va_rf (S.fA a 7), .int (S.fI a 8), .int (S.fI a 9), .int v, .int (S.fI a 11), .int (S.fI a 12), va_rf (S.fA a 13), .int (S.fI a 14), .int (S.fI a 15), va_rf (S.fA a 16)])) b = wkF cy (wuF S a 10 v) b := by
  by_cases hb : b = a
  · subst hb
    have h : S.2.1 b = 3 := h
    simp [wkF, va_up, h, wPS.L, wPS.K, wPS.fI, wPS.fJ, wPS.fA, wPS.len, wPS.rI, wPS.rJ, wPS.rA, wuF, wuG, wuA, wuRI, wuRJ, wuRA, wnO, wnI, wnJ, wnA]
  · simp [wkF, va_up, hb, wPS.L, wPS.K, wPS.fI, wPS.fJ, wPS.fA, wPS.len, wPS.rI, wPS.rJ, wPS.rA, wuF, wuG, wuA, wuRI, wuRJ, wuRA, wnO, wnI, wnJ, wnA]
abbrev gEntry_reply (S : wPS) (a : Nat) : Int32 := S.fI a 11
abbrev wu_Entry_reply (S : wPS) (a : Nat) (v : Int32) : wPS := wuF S a 11 v
theorem wSt_3_11 (cy : Nat → ClassId) (S : wPS) {a : Nat} (h : S.K a = 3) (v : Int32) (b : Nat) : va_up (wkF cy S) a (.inr (5, [.int (S.fI a 0), .int (S.fI a 1), .int (S.fI a 2), .int (S.fI a 3), .int (S.fI a 4), .int (S.fI a 5), .int (S.fI a 6), va_rf (S.fA a 7), .int (S.fI a 8), .int (S.fI a 9), .int (S.fI a 10), .int v, .int (S.fI a 12), va_rf (S.fA a 13), .int (S.fI a 14), .int (S.fI a 15), va_rf (S.fA a 16)])) b = wkF cy (wuF S a 11 v) b := by
  by_cases hb : b = a
  · subst hb
    have h : S.2.1 b = 3 := h
    simp [wkF, va_up, h, wPS.L, wPS.K, wPS.fI, wPS.fJ, wPS.fA, wPS.len, wPS.rI, wPS.rJ, wPS.rA, wuF, wuG, wuA, wuRI, wuRJ, wuRA, wnO, wnI, wnJ, wnA]
  · simp [wkF, va_up, hb, wPS.L, wPS.K, wPS.fI, wPS.fJ, wPS.fA, wPS.len, wPS.rI, wPS.rJ, wPS.rA, wuF, wuG, wuA, wuRI, wuRJ, wuRA, wnO, wnI, wnJ, wnA]
abbrev gEntry_told (S : wPS) (a : Nat) : Int32 := S.fI a 12
abbrev wu_Entry_told (S : wPS) (a : Nat) (v : Int32) : wPS := wuF S a 12 v
theorem wSt_3_12 (cy : Nat → ClassId) (S : wPS) {a : Nat} (h : S.K a = 3) (v : Int32) (b : Nat) : va_up (wkF cy S) a (.inr (5, [.int (S.fI a 0), .int (S.fI a 1), .int (S.fI a 2), .int (S.fI a 3), .int (S.fI a 4), .int (S.fI a 5), .int (S.fI a 6), va_rf (S.fA a 7), .int (S.fI a 8), .int (S.fI a 9), .int (S.fI a 10), .int (S.fI a 11), .int v, va_rf (S.fA a 13), .int (S.fI a 14), .int (S.fI a 15), va_rf (S.fA a 16)])) b = wkF cy (wuF S a 12 v) b := by
  by_cases hb : b = a
  · subst hb
    have h : S.2.1 b = 3 := h
    simp [wkF, va_up, h, wPS.L, wPS.K, wPS.fI, wPS.fJ, wPS.fA, wPS.len, wPS.rI, wPS.rJ, wPS.rA, wuF, wuG, wuA, wuRI, wuRJ, wuRA, wnO, wnI, wnJ, wnA]
  · simp [wkF, va_up, hb, wPS.L, wPS.K, wPS.fI, wPS.fJ, wPS.fA, wPS.len, wPS.rI, wPS.rJ, wPS.rA, wuF, wuG, wuA, wuRI, wuRJ, wuRA, wnO, wnI, wnJ, wnA]
abbrev gEntry_row (S : wPS) (a : Nat) : Option Nat := S.fA a 13
abbrev wu_Entry_row (S : wPS) (a : Nat) (v : Option Nat) : wPS := wuA S a 13 v
theorem wSt_3_13 (cy : Nat → ClassId) (S : wPS) {a : Nat} (h : S.K a = 3) (v : Option Nat) (b : Nat) : va_up (wkF cy S) a (.inr (5, [.int (S.fI a 0), .int (S.fI a 1), .int (S.fI a 2), .int (S.fI a 3), .int (S.fI a 4), .int (S.fI a 5), .int (S.fI a 6), va_rf (S.fA a 7), .int (S.fI a 8), .int (S.fI a 9), .int (S.fI a 10), .int (S.fI a 11), .int (S.fI a 12), va_rf v, .int (S.fI a 14), .int (S.fI a 15), va_rf (S.fA a 16)])) b = wkF cy (wuA S a 13 v) b := by
  by_cases hb : b = a
  · subst hb
    have h : S.2.1 b = 3 := h
    simp [wkF, va_up, h, wPS.L, wPS.K, wPS.fI, wPS.fJ, wPS.fA, wPS.len, wPS.rI, wPS.rJ, wPS.rA, wuF, wuG, wuA, wuRI, wuRJ, wuRA, wnO, wnI, wnJ, wnA]
  · simp [wkF, va_up, hb, wPS.L, wPS.K, wPS.fI, wPS.fJ, wPS.fA, wPS.len, wPS.rI, wPS.rJ, wPS.rA, wuF, wuG, wuA, wuRI, wuRJ, wuRA, wnO, wnI, wnJ, wnA]
abbrev gEntry_wasSettled (S : wPS) (a : Nat) : Int32 := S.fI a 14
abbrev wu_Entry_wasSettled (S : wPS) (a : Nat) (v : Int32) : wPS := wuF S a 14 v
theorem wSt_3_14 (cy : Nat → ClassId) (S : wPS) {a : Nat} (h : S.K a = 3) (v : Int32) (b : Nat) : va_up (wkF cy S) a (.inr (5, [.int (S.fI a 0), .int (S.fI a 1), .int (S.fI a 2), .int (S.fI a 3), .int (S.fI a 4), .int (S.fI a 5), .int (S.fI a 6), va_rf (S.fA a 7), .int (S.fI a 8), .int (S.fI a 9), .int (S.fI a 10), .int (S.fI a 11), .int (S.fI a 12), va_rf (S.fA a 13), .int v, .int (S.fI a 15), va_rf (S.fA a 16)])) b = wkF cy (wuF S a 14 v) b := by
  by_cases hb : b = a
  · subst hb
    have h : S.2.1 b = 3 := h
    simp [wkF, va_up, h, wPS.L, wPS.K, wPS.fI, wPS.fJ, wPS.fA, wPS.len, wPS.rI, wPS.rJ, wPS.rA, wuF, wuG, wuA, wuRI, wuRJ, wuRA, wnO, wnI, wnJ, wnA]
  · simp [wkF, va_up, hb, wPS.L, wPS.K, wPS.fI, wPS.fJ, wPS.fA, wPS.len, wPS.rI, wPS.rJ, wPS.rA, wuF, wuG, wuA, wuRI, wuRJ, wuRA, wnO, wnI, wnJ, wnA]
abbrev gEntry_settledReply (S : wPS) (a : Nat) : Int32 := S.fI a 15
abbrev wu_Entry_settledReply (S : wPS) (a : Nat) (v : Int32) : wPS := wuF S a 15 v
theorem wSt_3_15 (cy : Nat → ClassId) (S : wPS) {a : Nat} (h : S.K a = 3) (v : Int32) (b : Nat) : va_up (wkF cy S) a (.inr (5, [.int (S.fI a 0), .int (S.fI a 1), .int (S.fI a 2), .int (S.fI a 3), .int (S.fI a 4), .int (S.fI a 5), .int (S.fI a 6), va_rf (S.fA a 7), .int (S.fI a 8), .int (S.fI a 9), .int (S.fI a 10), .int (S.fI a 11), .int (S.fI a 12), va_rf (S.fA a 13), .int (S.fI a 14), .int v, va_rf (S.fA a 16)])) b = wkF cy (wuF S a 15 v) b := by
  by_cases hb : b = a
  · subst hb
    have h : S.2.1 b = 3 := h
    simp [wkF, va_up, h, wPS.L, wPS.K, wPS.fI, wPS.fJ, wPS.fA, wPS.len, wPS.rI, wPS.rJ, wPS.rA, wuF, wuG, wuA, wuRI, wuRJ, wuRA, wnO, wnI, wnJ, wnA]
  · simp [wkF, va_up, hb, wPS.L, wPS.K, wPS.fI, wPS.fJ, wPS.fA, wPS.len, wPS.rI, wPS.rJ, wPS.rA, wuF, wuG, wuA, wuRI, wuRJ, wuRA, wnO, wnI, wnJ, wnA]
abbrev gEntry_settledRow (S : wPS) (a : Nat) : Option Nat := S.fA a 16
abbrev wu_Entry_settledRow (S : wPS) (a : Nat) (v : Option Nat) : wPS := wuA S a 16 v
theorem wSt_3_16 (cy : Nat → ClassId) (S : wPS) {a : Nat} (h : S.K a = 3) (v : Option Nat) (b : Nat) : va_up (wkF cy S) a (.inr (5, [.int (S.fI a 0), .int (S.fI a 1), .int (S.fI a 2), .int (S.fI a 3), .int (S.fI a 4), .int (S.fI a 5), .int (S.fI a 6), va_rf (S.fA a 7), .int (S.fI a 8), .int (S.fI a 9), .int (S.fI a 10), .int (S.fI a 11), .int (S.fI a 12), va_rf (S.fA a 13), .int (S.fI a 14), .int (S.fI a 15), va_rf v])) b = wkF cy (wuA S a 16 v) b := by
  by_cases hb : b = a
  · subst hb
    have h : S.2.1 b = 3 := h
    simp [wkF, va_up, h, wPS.L, wPS.K, wPS.fI, wPS.fJ, wPS.fA, wPS.len, wPS.rI, wPS.rJ, wPS.rA, wuF, wuG, wuA, wuRI, wuRJ, wuRA, wnO, wnI, wnJ, wnA]
  · simp [wkF, va_up, hb, wPS.L, wPS.K, wPS.fI, wPS.fJ, wPS.fA, wPS.len, wPS.rI, wPS.rJ, wPS.rA, wuF, wuG, wuA, wuRI, wuRJ, wuRA, wnO, wnI, wnJ, wnA]
theorem wNw_3 (cy : Nat → ClassId) (S : wPS) (a b : Nat) : va_up (wkF cy S) a (.inr (5, [.int 0, .int 0, .int 0, .int 0, .int 0, .int 0, .int 0, .null, .int 0, .int 0, .int 0, .int 0, .int 0, .null, .int 0, .int 0, .null])) b = wkF cy (wnO S a 3) b := by
  by_cases hb : b = a
  · subst hb
    simp [wkF, va_up, va_rf, wPS.L, wPS.K, wPS.fI, wPS.fJ, wPS.fA, wPS.len, wPS.rI, wPS.rJ, wPS.rA, wuF, wuG, wuA, wuRI, wuRJ, wuRA, wnO, wnI, wnJ, wnA]
  · simp [wkF, va_up, hb, wPS.L, wPS.K, wPS.fI, wPS.fJ, wPS.fA, wPS.len, wPS.rI, wPS.rJ, wPS.rA, wuF, wuG, wuA, wuRI, wuRJ, wuRA, wnO, wnI, wnJ, wnA]
abbrev gHouse_networks (S : wPS) (a : Nat) : Option Nat := S.fA a 0
abbrev wu_House_networks (S : wPS) (a : Nat) (v : Option Nat) : wPS := wuA S a 0 v
theorem wSt_4_0 (cy : Nat → ClassId) (S : wPS) {a : Nat} (h : S.K a = 4) (v : Option Nat) (b : Nat) : va_up (wkF cy S) a (.inr (6, [va_rf v, va_rf (S.fA a 1), va_rf (S.fA a 2), va_rf (S.fA a 3), va_rf (S.fA a 4), va_rf (S.fA a 5), va_rf (S.fA a 6), va_rf (S.fA a 7)])) b = wkF cy (wuA S a 0 v) b := by
  by_cases hb : b = a
  · subst hb
    have h : S.2.1 b = 4 := h
    simp [wkF, va_up, h, wPS.L, wPS.K, wPS.fI, wPS.fJ, wPS.fA, wPS.len, wPS.rI, wPS.rJ, wPS.rA, wuF, wuG, wuA, wuRI, wuRJ, wuRA, wnO, wnI, wnJ, wnA]
  · simp [wkF, va_up, hb, wPS.L, wPS.K, wPS.fI, wPS.fJ, wPS.fA, wPS.len, wPS.rI, wPS.rJ, wPS.rA, wuF, wuG, wuA, wuRI, wuRJ, wuRA, wnO, wnI, wnJ, wnA]
abbrev gHouse_drawings (S : wPS) (a : Nat) : Option Nat := S.fA a 1
abbrev wu_House_drawings (S : wPS) (a : Nat) (v : Option Nat) : wPS := wuA S a 1 v
theorem wSt_4_1 (cy : Nat → ClassId) (S : wPS) {a : Nat} (h : S.K a = 4) (v : Option Nat) (b : Nat) : va_up (wkF cy S) a (.inr (6, [va_rf (S.fA a 0), va_rf v, va_rf (S.fA a 2), va_rf (S.fA a 3), va_rf (S.fA a 4), va_rf (S.fA a 5), va_rf (S.fA a 6), va_rf (S.fA a 7)])) b = wkF cy (wuA S a 1 v) b := by
  by_cases hb : b = a
  · subst hb
    have h : S.2.1 b = 4 := h
    simp [wkF, va_up, h, wPS.L, wPS.K, wPS.fI, wPS.fJ, wPS.fA, wPS.len, wPS.rI, wPS.rJ, wPS.rA, wuF, wuG, wuA, wuRI, wuRJ, wuRA, wnO, wnI, wnJ, wnA]
  · simp [wkF, va_up, hb, wPS.L, wPS.K, wPS.fI, wPS.fJ, wPS.fA, wPS.len, wPS.rI, wPS.rJ, wPS.rA, wuF, wuG, wuA, wuRI, wuRJ, wuRA, wnO, wnI, wnJ, wnA]
abbrev gHouse_inequalities (S : wPS) (a : Nat) : Option Nat := S.fA a 2
abbrev wu_House_inequalities (S : wPS) (a : Nat) (v : Option Nat) : wPS := wuA S a 2 v
theorem wSt_4_2 (cy : Nat → ClassId) (S : wPS) {a : Nat} (h : S.K a = 4) (v : Option Nat) (b : Nat) : va_up (wkF cy S) a (.inr (6, [va_rf (S.fA a 0), va_rf (S.fA a 1), va_rf v, va_rf (S.fA a 3), va_rf (S.fA a 4), va_rf (S.fA a 5), va_rf (S.fA a 6), va_rf (S.fA a 7)])) b = wkF cy (wuA S a 2 v) b := by
  by_cases hb : b = a
  · subst hb
    have h : S.2.1 b = 4 := h
    simp [wkF, va_up, h, wPS.L, wPS.K, wPS.fI, wPS.fJ, wPS.fA, wPS.len, wPS.rI, wPS.rJ, wPS.rA, wuF, wuG, wuA, wuRI, wuRJ, wuRA, wnO, wnI, wnJ, wnA]
  · simp [wkF, va_up, hb, wPS.L, wPS.K, wPS.fI, wPS.fJ, wPS.fA, wPS.len, wPS.rI, wPS.rJ, wPS.rA, wuF, wuG, wuA, wuRI, wuRJ, wuRA, wnO, wnI, wnJ, wnA]
abbrev gHouse_clauses (S : wPS) (a : Nat) : Option Nat := S.fA a 3
abbrev wu_House_clauses (S : wPS) (a : Nat) (v : Option Nat) : wPS := wuA S a 3 v
theorem wSt_4_3 (cy : Nat → ClassId) (S : wPS) {a : Nat} (h : S.K a = 4) (v : Option Nat) (b : Nat) : va_up (wkF cy S) a (.inr (6, [va_rf (S.fA a 0), va_rf (S.fA a 1), va_rf (S.fA a 2), va_rf v, va_rf (S.fA a 4), va_rf (S.fA a 5), va_rf (S.fA a 6), va_rf (S.fA a 7)])) b = wkF cy (wuA S a 3 v) b := by
  by_cases hb : b = a
  · subst hb
    have h : S.2.1 b = 4 := h
    simp [wkF, va_up, h, wPS.L, wPS.K, wPS.fI, wPS.fJ, wPS.fA, wPS.len, wPS.rI, wPS.rJ, wPS.rA, wuF, wuG, wuA, wuRI, wuRJ, wuRA, wnO, wnI, wnJ, wnA]
  · simp [wkF, va_up, hb, wPS.L, wPS.K, wPS.fI, wPS.fJ, wPS.fA, wPS.len, wPS.rI, wPS.rJ, wPS.rA, wuF, wuG, wuA, wuRI, wuRJ, wuRA, wnO, wnI, wnJ, wnA]
abbrev gHouse_numbers (S : wPS) (a : Nat) : Option Nat := S.fA a 4
abbrev wu_House_numbers (S : wPS) (a : Nat) (v : Option Nat) : wPS := wuA S a 4 v
theorem wSt_4_4 (cy : Nat → ClassId) (S : wPS) {a : Nat} (h : S.K a = 4) (v : Option Nat) (b : Nat) : va_up (wkF cy S) a (.inr (6, [va_rf (S.fA a 0), va_rf (S.fA a 1), va_rf (S.fA a 2), va_rf (S.fA a 3), va_rf v, va_rf (S.fA a 5), va_rf (S.fA a 6), va_rf (S.fA a 7)])) b = wkF cy (wuA S a 4 v) b := by
  by_cases hb : b = a
  · subst hb
    have h : S.2.1 b = 4 := h
    simp [wkF, va_up, h, wPS.L, wPS.K, wPS.fI, wPS.fJ, wPS.fA, wPS.len, wPS.rI, wPS.rJ, wPS.rA, wuF, wuG, wuA, wuRI, wuRJ, wuRA, wnO, wnI, wnJ, wnA]
  · simp [wkF, va_up, hb, wPS.L, wPS.K, wPS.fI, wPS.fJ, wPS.fA, wPS.len, wPS.rI, wPS.rJ, wPS.rA, wuF, wuG, wuA, wuRI, wuRJ, wuRA, wnO, wnI, wnJ, wnA]
abbrev gHouse_words (S : wPS) (a : Nat) : Option Nat := S.fA a 5
abbrev wu_House_words (S : wPS) (a : Nat) (v : Option Nat) : wPS := wuA S a 5 v
theorem wSt_4_5 (cy : Nat → ClassId) (S : wPS) {a : Nat} (h : S.K a = 4) (v : Option Nat) (b : Nat) : va_up (wkF cy S) a (.inr (6, [va_rf (S.fA a 0), va_rf (S.fA a 1), va_rf (S.fA a 2), va_rf (S.fA a 3), va_rf (S.fA a 4), va_rf v, va_rf (S.fA a 6), va_rf (S.fA a 7)])) b = wkF cy (wuA S a 5 v) b := by
  by_cases hb : b = a
  · subst hb
    have h : S.2.1 b = 4 := h
    simp [wkF, va_up, h, wPS.L, wPS.K, wPS.fI, wPS.fJ, wPS.fA, wPS.len, wPS.rI, wPS.rJ, wPS.rA, wuF, wuG, wuA, wuRI, wuRJ, wuRA, wnO, wnI, wnJ, wnA]
  · simp [wkF, va_up, hb, wPS.L, wPS.K, wPS.fI, wPS.fJ, wPS.fA, wPS.len, wPS.rI, wPS.rJ, wPS.rA, wuF, wuG, wuA, wuRI, wuRJ, wuRA, wnO, wnI, wnJ, wnA]
abbrev gHouse_machines (S : wPS) (a : Nat) : Option Nat := S.fA a 6
abbrev wu_House_machines (S : wPS) (a : Nat) (v : Option Nat) : wPS := wuA S a 6 v
theorem wSt_4_6 (cy : Nat → ClassId) (S : wPS) {a : Nat} (h : S.K a = 4) (v : Option Nat) (b : Nat) : va_up (wkF cy S) a (.inr (6, [va_rf (S.fA a 0), va_rf (S.fA a 1), va_rf (S.fA a 2), va_rf (S.fA a 3), va_rf (S.fA a 4), va_rf (S.fA a 5), va_rf v, va_rf (S.fA a 7)])) b = wkF cy (wuA S a 6 v) b := by
  by_cases hb : b = a
  · subst hb
    have h : S.2.1 b = 4 := h
    simp [wkF, va_up, h, wPS.L, wPS.K, wPS.fI, wPS.fJ, wPS.fA, wPS.len, wPS.rI, wPS.rJ, wPS.rA, wuF, wuG, wuA, wuRI, wuRJ, wuRA, wnO, wnI, wnJ, wnA]
  · simp [wkF, va_up, hb, wPS.L, wPS.K, wPS.fI, wPS.fJ, wPS.fA, wPS.len, wPS.rI, wPS.rJ, wPS.rA, wuF, wuG, wuA, wuRI, wuRJ, wuRA, wnO, wnI, wnJ, wnA]
abbrev gHouse_near (S : wPS) (a : Nat) : Option Nat := S.fA a 7
abbrev wu_House_near (S : wPS) (a : Nat) (v : Option Nat) : wPS := wuA S a 7 v
theorem wSt_4_7 (cy : Nat → ClassId) (S : wPS) {a : Nat} (h : S.K a = 4) (v : Option Nat) (b : Nat) : va_up (wkF cy S) a (.inr (6, [va_rf (S.fA a 0), va_rf (S.fA a 1), va_rf (S.fA a 2), va_rf (S.fA a 3), va_rf (S.fA a 4), va_rf (S.fA a 5), va_rf (S.fA a 6), va_rf v])) b = wkF cy (wuA S a 7 v) b := by
  by_cases hb : b = a
  · subst hb
    have h : S.2.1 b = 4 := h
    simp [wkF, va_up, h, wPS.L, wPS.K, wPS.fI, wPS.fJ, wPS.fA, wPS.len, wPS.rI, wPS.rJ, wPS.rA, wuF, wuG, wuA, wuRI, wuRJ, wuRA, wnO, wnI, wnJ, wnA]
  · simp [wkF, va_up, hb, wPS.L, wPS.K, wPS.fI, wPS.fJ, wPS.fA, wPS.len, wPS.rI, wPS.rJ, wPS.rA, wuF, wuG, wuA, wuRI, wuRJ, wuRA, wnO, wnI, wnJ, wnA]
theorem wNw_4 (cy : Nat → ClassId) (S : wPS) (a b : Nat) : va_up (wkF cy S) a (.inr (6, [.null, .null, .null, .null, .null, .null, .null, .null])) b = wkF cy (wnO S a 4) b := by
  by_cases hb : b = a
  · subst hb
    simp [wkF, va_up, va_rf, wPS.L, wPS.K, wPS.fI, wPS.fJ, wPS.fA, wPS.len, wPS.rI, wPS.rJ, wPS.rA, wuF, wuG, wuA, wuRI, wuRJ, wuRA, wnO, wnI, wnJ, wnA]
  · simp [wkF, va_up, hb, wPS.L, wPS.K, wPS.fI, wPS.fJ, wPS.fA, wPS.len, wPS.rI, wPS.rJ, wPS.rA, wuF, wuG, wuA, wuRI, wuRJ, wuRA, wnO, wnI, wnJ, wnA]
abbrev gInequalities_table (S : wPS) (a : Nat) : Option Nat := S.fA a 0
abbrev wu_Inequalities_table (S : wPS) (a : Nat) (v : Option Nat) : wPS := wuA S a 0 v
theorem wSt_5_0 (cy : Nat → ClassId) (S : wPS) {a : Nat} (h : S.K a = 5) (v : Option Nat) (b : Nat) : va_up (wkF cy S) a (.inr (7, [va_rf v, va_rf (S.fA a 1), va_rf (S.fA a 2), .int (S.fI a 3), .int (S.fI a 4), .int (S.fI a 5), .long (S.fJ a 6)])) b = wkF cy (wuA S a 0 v) b := by
  by_cases hb : b = a
  · subst hb
    have h : S.2.1 b = 5 := h
    simp [wkF, va_up, h, wPS.L, wPS.K, wPS.fI, wPS.fJ, wPS.fA, wPS.len, wPS.rI, wPS.rJ, wPS.rA, wuF, wuG, wuA, wuRI, wuRJ, wuRA, wnO, wnI, wnJ, wnA]
  · simp [wkF, va_up, hb, wPS.L, wPS.K, wPS.fI, wPS.fJ, wPS.fA, wPS.len, wPS.rI, wPS.rJ, wPS.rA, wuF, wuG, wuA, wuRI, wuRJ, wuRA, wnO, wnI, wnJ, wnA]
abbrev gInequalities_rowLabels (S : wPS) (a : Nat) : Option Nat := S.fA a 1
abbrev wu_Inequalities_rowLabels (S : wPS) (a : Nat) (v : Option Nat) : wPS := wuA S a 1 v
theorem wSt_5_1 (cy : Nat → ClassId) (S : wPS) {a : Nat} (h : S.K a = 5) (v : Option Nat) (b : Nat) : va_up (wkF cy S) a (.inr (7, [va_rf (S.fA a 0), va_rf v, va_rf (S.fA a 2), .int (S.fI a 3), .int (S.fI a 4), .int (S.fI a 5), .long (S.fJ a 6)])) b = wkF cy (wuA S a 1 v) b := by
  by_cases hb : b = a
  · subst hb
    have h : S.2.1 b = 5 := h
    simp [wkF, va_up, h, wPS.L, wPS.K, wPS.fI, wPS.fJ, wPS.fA, wPS.len, wPS.rI, wPS.rJ, wPS.rA, wuF, wuG, wuA, wuRI, wuRJ, wuRA, wnO, wnI, wnJ, wnA]
  · simp [wkF, va_up, hb, wPS.L, wPS.K, wPS.fI, wPS.fJ, wPS.fA, wPS.len, wPS.rI, wPS.rJ, wPS.rA, wuF, wuG, wuA, wuRI, wuRJ, wuRA, wnO, wnI, wnJ, wnA]
abbrev gInequalities_columnLabels (S : wPS) (a : Nat) : Option Nat := S.fA a 2
abbrev wu_Inequalities_columnLabels (S : wPS) (a : Nat) (v : Option Nat) : wPS := wuA S a 2 v
theorem wSt_5_2 (cy : Nat → ClassId) (S : wPS) {a : Nat} (h : S.K a = 5) (v : Option Nat) (b : Nat) : va_up (wkF cy S) a (.inr (7, [va_rf (S.fA a 0), va_rf (S.fA a 1), va_rf v, .int (S.fI a 3), .int (S.fI a 4), .int (S.fI a 5), .long (S.fJ a 6)])) b = wkF cy (wuA S a 2 v) b := by
  by_cases hb : b = a
  · subst hb
    have h : S.2.1 b = 5 := h
    simp [wkF, va_up, h, wPS.L, wPS.K, wPS.fI, wPS.fJ, wPS.fA, wPS.len, wPS.rI, wPS.rJ, wPS.rA, wuF, wuG, wuA, wuRI, wuRJ, wuRA, wnO, wnI, wnJ, wnA]
  · simp [wkF, va_up, hb, wPS.L, wPS.K, wPS.fI, wPS.fJ, wPS.fA, wPS.len, wPS.rI, wPS.rJ, wPS.rA, wuF, wuG, wuA, wuRI, wuRJ, wuRA, wnO, wnI, wnJ, wnA]
abbrev gInequalities_locked (S : wPS) (a : Nat) : Int32 := S.fI a 3
abbrev wu_Inequalities_locked (S : wPS) (a : Nat) (v : Int32) : wPS := wuF S a 3 v
theorem wSt_5_3 (cy : Nat → ClassId) (S : wPS) {a : Nat} (h : S.K a = 5) (v : Int32) (b : Nat) : va_up (wkF cy S) a (.inr (7, [va_rf (S.fA a 0), va_rf (S.fA a 1), va_rf (S.fA a 2), .int v, .int (S.fI a 4), .int (S.fI a 5), .long (S.fJ a 6)])) b = wkF cy (wuF S a 3 v) b := by
  by_cases hb : b = a
  · subst hb
    have h : S.2.1 b = 5 := h
    simp [wkF, va_up, h, wPS.L, wPS.K, wPS.fI, wPS.fJ, wPS.fA, wPS.len, wPS.rI, wPS.rJ, wPS.rA, wuF, wuG, wuA, wuRI, wuRJ, wuRA, wnO, wnI, wnJ, wnA]
  · simp [wkF, va_up, hb, wPS.L, wPS.K, wPS.fI, wPS.fJ, wPS.fA, wPS.len, wPS.rI, wPS.rJ, wPS.rA, wuF, wuG, wuA, wuRI, wuRJ, wuRA, wnO, wnI, wnJ, wnA]
abbrev gInequalities_rows (S : wPS) (a : Nat) : Int32 := S.fI a 4
abbrev wu_Inequalities_rows (S : wPS) (a : Nat) (v : Int32) : wPS := wuF S a 4 v
theorem wSt_5_4 (cy : Nat → ClassId) (S : wPS) {a : Nat} (h : S.K a = 5) (v : Int32) (b : Nat) : va_up (wkF cy S) a (.inr (7, [va_rf (S.fA a 0), va_rf (S.fA a 1), va_rf (S.fA a 2), .int (S.fI a 3), .int v, .int (S.fI a 5), .long (S.fJ a 6)])) b = wkF cy (wuF S a 4 v) b := by
  by_cases hb : b = a
  · subst hb
    have h : S.2.1 b = 5 := h
    simp [wkF, va_up, h, wPS.L, wPS.K, wPS.fI, wPS.fJ, wPS.fA, wPS.len, wPS.rI, wPS.rJ, wPS.rA, wuF, wuG, wuA, wuRI, wuRJ, wuRA, wnO, wnI, wnJ, wnA]
  · simp [wkF, va_up, hb, wPS.L, wPS.K, wPS.fI, wPS.fJ, wPS.fA, wPS.len, wPS.rI, wPS.rJ, wPS.rA, wuF, wuG, wuA, wuRI, wuRJ, wuRA, wnO, wnI, wnJ, wnA]
abbrev gInequalities_columns (S : wPS) (a : Nat) : Int32 := S.fI a 5
abbrev wu_Inequalities_columns (S : wPS) (a : Nat) (v : Int32) : wPS := wuF S a 5 v
theorem wSt_5_5 (cy : Nat → ClassId) (S : wPS) {a : Nat} (h : S.K a = 5) (v : Int32) (b : Nat) : va_up (wkF cy S) a (.inr (7, [va_rf (S.fA a 0), va_rf (S.fA a 1), va_rf (S.fA a 2), .int (S.fI a 3), .int (S.fI a 4), .int v, .long (S.fJ a 6)])) b = wkF cy (wuF S a 5 v) b := by
  by_cases hb : b = a
  · subst hb
    have h : S.2.1 b = 5 := h
    simp [wkF, va_up, h, wPS.L, wPS.K, wPS.fI, wPS.fJ, wPS.fA, wPS.len, wPS.rI, wPS.rJ, wPS.rA, wuF, wuG, wuA, wuRI, wuRJ, wuRA, wnO, wnI, wnJ, wnA]
  · simp [wkF, va_up, hb, wPS.L, wPS.K, wPS.fI, wPS.fJ, wPS.fA, wPS.len, wPS.rI, wPS.rJ, wPS.rA, wuF, wuG, wuA, wuRI, wuRJ, wuRA, wnO, wnI, wnJ, wnA]
abbrev gInequalities_lower (S : wPS) (a : Nat) : Int64 := S.fJ a 6
abbrev wu_Inequalities_lower (S : wPS) (a : Nat) (v : Int64) : wPS := wuG S a 6 v
theorem wSt_5_6 (cy : Nat → ClassId) (S : wPS) {a : Nat} (h : S.K a = 5) (v : Int64) (b : Nat) : va_up (wkF cy S) a (.inr (7, [va_rf (S.fA a 0), va_rf (S.fA a 1), va_rf (S.fA a 2), .int (S.fI a 3), .int (S.fI a 4), .int (S.fI a 5), .long v])) b = wkF cy (wuG S a 6 v) b := by
  by_cases hb : b = a
  · subst hb
    have h : S.2.1 b = 5 := h
    simp [wkF, va_up, h, wPS.L, wPS.K, wPS.fI, wPS.fJ, wPS.fA, wPS.len, wPS.rI, wPS.rJ, wPS.rA, wuF, wuG, wuA, wuRI, wuRJ, wuRA, wnO, wnI, wnJ, wnA]
  · simp [wkF, va_up, hb, wPS.L, wPS.K, wPS.fI, wPS.fJ, wPS.fA, wPS.len, wPS.rI, wPS.rJ, wPS.rA, wuF, wuG, wuA, wuRI, wuRJ, wuRA, wnO, wnI, wnJ, wnA]
theorem wNw_5 (cy : Nat → ClassId) (S : wPS) (a b : Nat) : va_up (wkF cy S) a (.inr (7, [.null, .null, .null, .int 0, .int 0, .int 0, .long 0])) b = wkF cy (wnO S a 5) b := by
  by_cases hb : b = a
  · subst hb
    simp [wkF, va_up, va_rf, wPS.L, wPS.K, wPS.fI, wPS.fJ, wPS.fA, wPS.len, wPS.rI, wPS.rJ, wPS.rA, wuF, wuG, wuA, wuRI, wuRJ, wuRA, wnO, wnI, wnJ, wnA]
  · simp [wkF, va_up, hb, wPS.L, wPS.K, wPS.fI, wPS.fJ, wPS.fA, wPS.len, wPS.rI, wPS.rJ, wPS.rA, wuF, wuG, wuA, wuRI, wuRJ, wuRA, wnO, wnI, wnJ, wnA]
abbrev gMachines_byZero (S : wPS) (a : Nat) : Option Nat := S.fA a 0
abbrev wu_Machines_byZero (S : wPS) (a : Nat) (v : Option Nat) : wPS := wuA S a 0 v
theorem wSt_6_0 (cy : Nat → ClassId) (S : wPS) {a : Nat} (h : S.K a = 6) (v : Option Nat) (b : Nat) : va_up (wkF cy S) a (.inr (8, [va_rf v, va_rf (S.fA a 1), va_rf (S.fA a 2), va_rf (S.fA a 3), va_rf (S.fA a 4), va_rf (S.fA a 5), va_rf (S.fA a 6), .int (S.fI a 7)])) b = wkF cy (wuA S a 0 v) b := by
  by_cases hb : b = a
  · subst hb
    have h : S.2.1 b = 6 := h
    simp [wkF, va_up, h, wPS.L, wPS.K, wPS.fI, wPS.fJ, wPS.fA, wPS.len, wPS.rI, wPS.rJ, wPS.rA, wuF, wuG, wuA, wuRI, wuRJ, wuRA, wnO, wnI, wnJ, wnA]
  · simp [wkF, va_up, hb, wPS.L, wPS.K, wPS.fI, wPS.fJ, wPS.fA, wPS.len, wPS.rI, wPS.rJ, wPS.rA, wuF, wuG, wuA, wuRI, wuRJ, wuRA, wnO, wnI, wnJ, wnA]
abbrev gMachines_byOne (S : wPS) (a : Nat) : Option Nat := S.fA a 1
abbrev wu_Machines_byOne (S : wPS) (a : Nat) (v : Option Nat) : wPS := wuA S a 1 v
theorem wSt_6_1 (cy : Nat → ClassId) (S : wPS) {a : Nat} (h : S.K a = 6) (v : Option Nat) (b : Nat) : va_up (wkF cy S) a (.inr (8, [va_rf (S.fA a 0), va_rf v, va_rf (S.fA a 2), va_rf (S.fA a 3), va_rf (S.fA a 4), va_rf (S.fA a 5), va_rf (S.fA a 6), .int (S.fI a 7)])) b = wkF cy (wuA S a 1 v) b := by
  by_cases hb : b = a
  · subst hb
    have h : S.2.1 b = 6 := h
    simp [wkF, va_up, h, wPS.L, wPS.K, wPS.fI, wPS.fJ, wPS.fA, wPS.len, wPS.rI, wPS.rJ, wPS.rA, wuF, wuG, wuA, wuRI, wuRJ, wuRA, wnO, wnI, wnJ, wnA]
  · simp [wkF, va_up, hb, wPS.L, wPS.K, wPS.fI, wPS.fJ, wPS.fA, wPS.len, wPS.rI, wPS.rJ, wPS.rA, wuF, wuG, wuA, wuRI, wuRJ, wuRA, wnO, wnI, wnJ, wnA]
abbrev gMachines_finals (S : wPS) (a : Nat) : Option Nat := S.fA a 2
abbrev wu_Machines_finals (S : wPS) (a : Nat) (v : Option Nat) : wPS := wuA S a 2 v
theorem wSt_6_2 (cy : Nat → ClassId) (S : wPS) {a : Nat} (h : S.K a = 6) (v : Option Nat) (b : Nat) : va_up (wkF cy S) a (.inr (8, [va_rf (S.fA a 0), va_rf (S.fA a 1), va_rf v, va_rf (S.fA a 3), va_rf (S.fA a 4), va_rf (S.fA a 5), va_rf (S.fA a 6), .int (S.fI a 7)])) b = wkF cy (wuA S a 2 v) b := by
  by_cases hb : b = a
  · subst hb
    have h : S.2.1 b = 6 := h
    simp [wkF, va_up, h, wPS.L, wPS.K, wPS.fI, wPS.fJ, wPS.fA, wPS.len, wPS.rI, wPS.rJ, wPS.rA, wuF, wuG, wuA, wuRI, wuRJ, wuRA, wnO, wnI, wnJ, wnA]
  · simp [wkF, va_up, hb, wPS.L, wPS.K, wPS.fI, wPS.fJ, wPS.fA, wPS.len, wPS.rI, wPS.rJ, wPS.rA, wuF, wuG, wuA, wuRI, wuRJ, wuRA, wnO, wnI, wnJ, wnA]
abbrev gMachines_letters (S : wPS) (a : Nat) : Option Nat := S.fA a 3
abbrev wu_Machines_letters (S : wPS) (a : Nat) (v : Option Nat) : wPS := wuA S a 3 v
theorem wSt_6_3 (cy : Nat → ClassId) (S : wPS) {a : Nat} (h : S.K a = 6) (v : Option Nat) (b : Nat) : va_up (wkF cy S) a (.inr (8, [va_rf (S.fA a 0), va_rf (S.fA a 1), va_rf (S.fA a 2), va_rf v, va_rf (S.fA a 4), va_rf (S.fA a 5), va_rf (S.fA a 6), .int (S.fI a 7)])) b = wkF cy (wuA S a 3 v) b := by
  by_cases hb : b = a
  · subst hb
    have h : S.2.1 b = 6 := h
    simp [wkF, va_up, h, wPS.L, wPS.K, wPS.fI, wPS.fJ, wPS.fA, wPS.len, wPS.rI, wPS.rJ, wPS.rA, wuF, wuG, wuA, wuRI, wuRJ, wuRA, wnO, wnI, wnJ, wnA]
  · simp [wkF, va_up, hb, wPS.L, wPS.K, wPS.fI, wPS.fJ, wPS.fA, wPS.len, wPS.rI, wPS.rJ, wPS.rA, wuF, wuG, wuA, wuRI, wuRJ, wuRA, wnO, wnI, wnJ, wnA]
abbrev gMachines_owners (S : wPS) (a : Nat) : Option Nat := S.fA a 4
abbrev wu_Machines_owners (S : wPS) (a : Nat) (v : Option Nat) : wPS := wuA S a 4 v
theorem wSt_6_4 (cy : Nat → ClassId) (S : wPS) {a : Nat} (h : S.K a = 6) (v : Option Nat) (b : Nat) : va_up (wkF cy S) a (.inr (8, [va_rf (S.fA a 0), va_rf (S.fA a 1), va_rf (S.fA a 2), va_rf (S.fA a 3), va_rf v, va_rf (S.fA a 5), va_rf (S.fA a 6), .int (S.fI a 7)])) b = wkF cy (wuA S a 4 v) b := by
  by_cases hb : b = a
  · subst hb
    have h : S.2.1 b = 6 := h
    simp [wkF, va_up, h, wPS.L, wPS.K, wPS.fI, wPS.fJ, wPS.fA, wPS.len, wPS.rI, wPS.rJ, wPS.rA, wuF, wuG, wuA, wuRI, wuRJ, wuRA, wnO, wnI, wnJ, wnA]
  · simp [wkF, va_up, hb, wPS.L, wPS.K, wPS.fI, wPS.fJ, wPS.fA, wPS.len, wPS.rI, wPS.rJ, wPS.rA, wuF, wuG, wuA, wuRI, wuRJ, wuRA, wnO, wnI, wnJ, wnA]
abbrev gMachines_weights (S : wPS) (a : Nat) : Option Nat := S.fA a 5
abbrev wu_Machines_weights (S : wPS) (a : Nat) (v : Option Nat) : wPS := wuA S a 5 v
theorem wSt_6_5 (cy : Nat → ClassId) (S : wPS) {a : Nat} (h : S.K a = 6) (v : Option Nat) (b : Nat) : va_up (wkF cy S) a (.inr (8, [va_rf (S.fA a 0), va_rf (S.fA a 1), va_rf (S.fA a 2), va_rf (S.fA a 3), va_rf (S.fA a 4), va_rf v, va_rf (S.fA a 6), .int (S.fI a 7)])) b = wkF cy (wuA S a 5 v) b := by
  by_cases hb : b = a
  · subst hb
    have h : S.2.1 b = 6 := h
    simp [wkF, va_up, h, wPS.L, wPS.K, wPS.fI, wPS.fJ, wPS.fA, wPS.len, wPS.rI, wPS.rJ, wPS.rA, wuF, wuG, wuA, wuRI, wuRJ, wuRA, wnO, wnI, wnJ, wnA]
  · simp [wkF, va_up, hb, wPS.L, wPS.K, wPS.fI, wPS.fJ, wPS.fA, wPS.len, wPS.rI, wPS.rJ, wPS.rA, wuF, wuG, wuA, wuRI, wuRJ, wuRA, wnO, wnI, wnJ, wnA]
abbrev gMachines_ways (S : wPS) (a : Nat) : Option Nat := S.fA a 6
abbrev wu_Machines_ways (S : wPS) (a : Nat) (v : Option Nat) : wPS := wuA S a 6 v
theorem wSt_6_6 (cy : Nat → ClassId) (S : wPS) {a : Nat} (h : S.K a = 6) (v : Option Nat) (b : Nat) : va_up (wkF cy S) a (.inr (8, [va_rf (S.fA a 0), va_rf (S.fA a 1), va_rf (S.fA a 2), va_rf (S.fA a 3), va_rf (S.fA a 4), va_rf (S.fA a 5), va_rf v, .int (S.fI a 7)])) b = wkF cy (wuA S a 6 v) b := by
  by_cases hb : b = a
  · subst hb
    have h : S.2.1 b = 6 := h
    simp [wkF, va_up, h, wPS.L, wPS.K, wPS.fI, wPS.fJ, wPS.fA, wPS.len, wPS.rI, wPS.rJ, wPS.rA, wuF, wuG, wuA, wuRI, wuRJ, wuRA, wnO, wnI, wnJ, wnA]
  · simp [wkF, va_up, hb, wPS.L, wPS.K, wPS.fI, wPS.fJ, wPS.fA, wPS.len, wPS.rI, wPS.rJ, wPS.rA, wuF, wuG, wuA, wuRI, wuRJ, wuRA, wnO, wnI, wnJ, wnA]
abbrev gMachines_size (S : wPS) (a : Nat) : Int32 := S.fI a 7
abbrev wu_Machines_size (S : wPS) (a : Nat) (v : Int32) : wPS := wuF S a 7 v
theorem wSt_6_7 (cy : Nat → ClassId) (S : wPS) {a : Nat} (h : S.K a = 6) (v : Int32) (b : Nat) : va_up (wkF cy S) a (.inr (8, [va_rf (S.fA a 0), va_rf (S.fA a 1), va_rf (S.fA a 2), va_rf (S.fA a 3), va_rf (S.fA a 4), va_rf (S.fA a 5), va_rf (S.fA a 6), .int v])) b = wkF cy (wuF S a 7 v) b := by
  by_cases hb : b = a
  · subst hb
    have h : S.2.1 b = 6 := h
    simp [wkF, va_up, h, wPS.L, wPS.K, wPS.fI, wPS.fJ, wPS.fA, wPS.len, wPS.rI, wPS.rJ, wPS.rA, wuF, wuG, wuA, wuRI, wuRJ, wuRA, wnO, wnI, wnJ, wnA]
  · simp [wkF, va_up, hb, wPS.L, wPS.K, wPS.fI, wPS.fJ, wPS.fA, wPS.len, wPS.rI, wPS.rJ, wPS.rA, wuF, wuG, wuA, wuRI, wuRJ, wuRA, wnO, wnI, wnJ, wnA]
theorem wNw_6 (cy : Nat → ClassId) (S : wPS) (a b : Nat) : va_up (wkF cy S) a (.inr (8, [.null, .null, .null, .null, .null, .null, .null, .int 0])) b = wkF cy (wnO S a 6) b := by
  by_cases hb : b = a
  · subst hb
    simp [wkF, va_up, va_rf, wPS.L, wPS.K, wPS.fI, wPS.fJ, wPS.fA, wPS.len, wPS.rI, wPS.rJ, wPS.rA, wuF, wuG, wuA, wuRI, wuRJ, wuRA, wnO, wnI, wnJ, wnA]
  · simp [wkF, va_up, hb, wPS.L, wPS.K, wPS.fI, wPS.fJ, wPS.fA, wPS.len, wPS.rI, wPS.rJ, wPS.rA, wuF, wuG, wuA, wuRI, wuRJ, wuRA, wnO, wnI, wnJ, wnA]
abbrev gNetworks_near (S : wPS) (a : Nat) : Option Nat := S.fA a 0
abbrev wu_Networks_near (S : wPS) (a : Nat) (v : Option Nat) : wPS := wuA S a 0 v
theorem wSt_7_0 (cy : Nat → ClassId) (S : wPS) {a : Nat} (h : S.K a = 7) (v : Option Nat) (b : Nat) : va_up (wkF cy S) a (.inr (9, [va_rf v, va_rf (S.fA a 1), va_rf (S.fA a 2), va_rf (S.fA a 3), va_rf (S.fA a 4), va_rf (S.fA a 5), va_rf (S.fA a 6), va_rf (S.fA a 7), .int (S.fI a 8), .int (S.fI a 9), .int (S.fI a 10)])) b = wkF cy (wuA S a 0 v) b := by
  by_cases hb : b = a
  · subst hb
    have h : S.2.1 b = 7 := h
    simp [wkF, va_up, h, wPS.L, wPS.K, wPS.fI, wPS.fJ, wPS.fA, wPS.len, wPS.rI, wPS.rJ, wPS.rA, wuF, wuG, wuA, wuRI, wuRJ, wuRA, wnO, wnI, wnJ, wnA]
  · simp [wkF, va_up, hb, wPS.L, wPS.K, wPS.fI, wPS.fJ, wPS.fA, wPS.len, wPS.rI, wPS.rJ, wPS.rA, wuF, wuG, wuA, wuRI, wuRJ, wuRA, wnO, wnI, wnJ, wnA]
abbrev gNetworks_best (S : wPS) (a : Nat) : Option Nat := S.fA a 1
abbrev wu_Networks_best (S : wPS) (a : Nat) (v : Option Nat) : wPS := wuA S a 1 v
theorem wSt_7_1 (cy : Nat → ClassId) (S : wPS) {a : Nat} (h : S.K a = 7) (v : Option Nat) (b : Nat) : va_up (wkF cy S) a (.inr (9, [va_rf (S.fA a 0), va_rf v, va_rf (S.fA a 2), va_rf (S.fA a 3), va_rf (S.fA a 4), va_rf (S.fA a 5), va_rf (S.fA a 6), va_rf (S.fA a 7), .int (S.fI a 8), .int (S.fI a 9), .int (S.fI a 10)])) b = wkF cy (wuA S a 1 v) b := by
  by_cases hb : b = a
  · subst hb
    have h : S.2.1 b = 7 := h
    simp [wkF, va_up, h, wPS.L, wPS.K, wPS.fI, wPS.fJ, wPS.fA, wPS.len, wPS.rI, wPS.rJ, wPS.rA, wuF, wuG, wuA, wuRI, wuRJ, wuRA, wnO, wnI, wnJ, wnA]
  · simp [wkF, va_up, hb, wPS.L, wPS.K, wPS.fI, wPS.fJ, wPS.fA, wPS.len, wPS.rI, wPS.rJ, wPS.rA, wuF, wuG, wuA, wuRI, wuRJ, wuRA, wnO, wnI, wnJ, wnA]
abbrev gNetworks_from (S : wPS) (a : Nat) : Option Nat := S.fA a 2
abbrev wu_Networks_from (S : wPS) (a : Nat) (v : Option Nat) : wPS := wuA S a 2 v
theorem wSt_7_2 (cy : Nat → ClassId) (S : wPS) {a : Nat} (h : S.K a = 7) (v : Option Nat) (b : Nat) : va_up (wkF cy S) a (.inr (9, [va_rf (S.fA a 0), va_rf (S.fA a 1), va_rf v, va_rf (S.fA a 3), va_rf (S.fA a 4), va_rf (S.fA a 5), va_rf (S.fA a 6), va_rf (S.fA a 7), .int (S.fI a 8), .int (S.fI a 9), .int (S.fI a 10)])) b = wkF cy (wuA S a 2 v) b := by
  by_cases hb : b = a
  · subst hb
    have h : S.2.1 b = 7 := h
    simp [wkF, va_up, h, wPS.L, wPS.K, wPS.fI, wPS.fJ, wPS.fA, wPS.len, wPS.rI, wPS.rJ, wPS.rA, wuF, wuG, wuA, wuRI, wuRJ, wuRA, wnO, wnI, wnJ, wnA]
  · simp [wkF, va_up, hb, wPS.L, wPS.K, wPS.fI, wPS.fJ, wPS.fA, wPS.len, wPS.rI, wPS.rJ, wPS.rA, wuF, wuG, wuA, wuRI, wuRJ, wuRA, wnO, wnI, wnJ, wnA]
abbrev gNetworks_to (S : wPS) (a : Nat) : Option Nat := S.fA a 3
abbrev wu_Networks_to (S : wPS) (a : Nat) (v : Option Nat) : wPS := wuA S a 3 v
theorem wSt_7_3 (cy : Nat → ClassId) (S : wPS) {a : Nat} (h : S.K a = 7) (v : Option Nat) (b : Nat) : va_up (wkF cy S) a (.inr (9, [va_rf (S.fA a 0), va_rf (S.fA a 1), va_rf (S.fA a 2), va_rf v, va_rf (S.fA a 4), va_rf (S.fA a 5), va_rf (S.fA a 6), va_rf (S.fA a 7), .int (S.fI a 8), .int (S.fI a 9), .int (S.fI a 10)])) b = wkF cy (wuA S a 3 v) b := by
  by_cases hb : b = a
  · subst hb
    have h : S.2.1 b = 7 := h
    simp [wkF, va_up, h, wPS.L, wPS.K, wPS.fI, wPS.fJ, wPS.fA, wPS.len, wPS.rI, wPS.rJ, wPS.rA, wuF, wuG, wuA, wuRI, wuRJ, wuRA, wnO, wnI, wnJ, wnA]
  · simp [wkF, va_up, hb, wPS.L, wPS.K, wPS.fI, wPS.fJ, wPS.fA, wPS.len, wPS.rI, wPS.rJ, wPS.rA, wuF, wuG, wuA, wuRI, wuRJ, wuRA, wnO, wnI, wnJ, wnA]
abbrev gNetworks_caps (S : wPS) (a : Nat) : Option Nat := S.fA a 4
abbrev wu_Networks_caps (S : wPS) (a : Nat) (v : Option Nat) : wPS := wuA S a 4 v
theorem wSt_7_4 (cy : Nat → ClassId) (S : wPS) {a : Nat} (h : S.K a = 7) (v : Option Nat) (b : Nat) : va_up (wkF cy S) a (.inr (9, [va_rf (S.fA a 0), va_rf (S.fA a 1), va_rf (S.fA a 2), va_rf (S.fA a 3), va_rf v, va_rf (S.fA a 5), va_rf (S.fA a 6), va_rf (S.fA a 7), .int (S.fI a 8), .int (S.fI a 9), .int (S.fI a 10)])) b = wkF cy (wuA S a 4 v) b := by
  by_cases hb : b = a
  · subst hb
    have h : S.2.1 b = 7 := h
    simp [wkF, va_up, h, wPS.L, wPS.K, wPS.fI, wPS.fJ, wPS.fA, wPS.len, wPS.rI, wPS.rJ, wPS.rA, wuF, wuG, wuA, wuRI, wuRJ, wuRA, wnO, wnI, wnJ, wnA]
  · simp [wkF, va_up, hb, wPS.L, wPS.K, wPS.fI, wPS.fJ, wPS.fA, wPS.len, wPS.rI, wPS.rJ, wPS.rA, wuF, wuG, wuA, wuRI, wuRJ, wuRA, wnO, wnI, wnJ, wnA]
abbrev gNetworks_flow (S : wPS) (a : Nat) : Option Nat := S.fA a 5
abbrev wu_Networks_flow (S : wPS) (a : Nat) (v : Option Nat) : wPS := wuA S a 5 v
theorem wSt_7_5 (cy : Nat → ClassId) (S : wPS) {a : Nat} (h : S.K a = 7) (v : Option Nat) (b : Nat) : va_up (wkF cy S) a (.inr (9, [va_rf (S.fA a 0), va_rf (S.fA a 1), va_rf (S.fA a 2), va_rf (S.fA a 3), va_rf (S.fA a 4), va_rf v, va_rf (S.fA a 6), va_rf (S.fA a 7), .int (S.fI a 8), .int (S.fI a 9), .int (S.fI a 10)])) b = wkF cy (wuA S a 5 v) b := by
  by_cases hb : b = a
  · subst hb
    have h : S.2.1 b = 7 := h
    simp [wkF, va_up, h, wPS.L, wPS.K, wPS.fI, wPS.fJ, wPS.fA, wPS.len, wPS.rI, wPS.rJ, wPS.rA, wuF, wuG, wuA, wuRI, wuRJ, wuRA, wnO, wnI, wnJ, wnA]
  · simp [wkF, va_up, hb, wPS.L, wPS.K, wPS.fI, wPS.fJ, wPS.fA, wPS.len, wPS.rI, wPS.rJ, wPS.rA, wuF, wuG, wuA, wuRI, wuRJ, wuRA, wnO, wnI, wnJ, wnA]
abbrev gNetworks_via (S : wPS) (a : Nat) : Option Nat := S.fA a 6
abbrev wu_Networks_via (S : wPS) (a : Nat) (v : Option Nat) : wPS := wuA S a 6 v
theorem wSt_7_6 (cy : Nat → ClassId) (S : wPS) {a : Nat} (h : S.K a = 7) (v : Option Nat) (b : Nat) : va_up (wkF cy S) a (.inr (9, [va_rf (S.fA a 0), va_rf (S.fA a 1), va_rf (S.fA a 2), va_rf (S.fA a 3), va_rf (S.fA a 4), va_rf (S.fA a 5), va_rf v, va_rf (S.fA a 7), .int (S.fI a 8), .int (S.fI a 9), .int (S.fI a 10)])) b = wkF cy (wuA S a 6 v) b := by
  by_cases hb : b = a
  · subst hb
    have h : S.2.1 b = 7 := h
    simp [wkF, va_up, h, wPS.L, wPS.K, wPS.fI, wPS.fJ, wPS.fA, wPS.len, wPS.rI, wPS.rJ, wPS.rA, wuF, wuG, wuA, wuRI, wuRJ, wuRA, wnO, wnI, wnJ, wnA]
  · simp [wkF, va_up, hb, wPS.L, wPS.K, wPS.fI, wPS.fJ, wPS.fA, wPS.len, wPS.rI, wPS.rJ, wPS.rA, wuF, wuG, wuA, wuRI, wuRJ, wuRA, wnO, wnI, wnJ, wnA]
abbrev gNetworks_excess (S : wPS) (a : Nat) : Option Nat := S.fA a 7
abbrev wu_Networks_excess (S : wPS) (a : Nat) (v : Option Nat) : wPS := wuA S a 7 v
theorem wSt_7_7 (cy : Nat → ClassId) (S : wPS) {a : Nat} (h : S.K a = 7) (v : Option Nat) (b : Nat) : va_up (wkF cy S) a (.inr (9, [va_rf (S.fA a 0), va_rf (S.fA a 1), va_rf (S.fA a 2), va_rf (S.fA a 3), va_rf (S.fA a 4), va_rf (S.fA a 5), va_rf (S.fA a 6), va_rf v, .int (S.fI a 8), .int (S.fI a 9), .int (S.fI a 10)])) b = wkF cy (wuA S a 7 v) b := by
  by_cases hb : b = a
  · subst hb
    have h : S.2.1 b = 7 := h
    simp [wkF, va_up, h, wPS.L, wPS.K, wPS.fI, wPS.fJ, wPS.fA, wPS.len, wPS.rI, wPS.rJ, wPS.rA, wuF, wuG, wuA, wuRI, wuRJ, wuRA, wnO, wnI, wnJ, wnA]
  · simp [wkF, va_up, hb, wPS.L, wPS.K, wPS.fI, wPS.fJ, wPS.fA, wPS.len, wPS.rI, wPS.rJ, wPS.rA, wuF, wuG, wuA, wuRI, wuRJ, wuRA, wnO, wnI, wnJ, wnA]
abbrev gNetworks_nodeCount (S : wPS) (a : Nat) : Int32 := S.fI a 8
abbrev wu_Networks_nodeCount (S : wPS) (a : Nat) (v : Int32) : wPS := wuF S a 8 v
theorem wSt_7_8 (cy : Nat → ClassId) (S : wPS) {a : Nat} (h : S.K a = 7) (v : Int32) (b : Nat) : va_up (wkF cy S) a (.inr (9, [va_rf (S.fA a 0), va_rf (S.fA a 1), va_rf (S.fA a 2), va_rf (S.fA a 3), va_rf (S.fA a 4), va_rf (S.fA a 5), va_rf (S.fA a 6), va_rf (S.fA a 7), .int v, .int (S.fI a 9), .int (S.fI a 10)])) b = wkF cy (wuF S a 8 v) b := by
  by_cases hb : b = a
  · subst hb
    have h : S.2.1 b = 7 := h
    simp [wkF, va_up, h, wPS.L, wPS.K, wPS.fI, wPS.fJ, wPS.fA, wPS.len, wPS.rI, wPS.rJ, wPS.rA, wuF, wuG, wuA, wuRI, wuRJ, wuRA, wnO, wnI, wnJ, wnA]
  · simp [wkF, va_up, hb, wPS.L, wPS.K, wPS.fI, wPS.fJ, wPS.fA, wPS.len, wPS.rI, wPS.rJ, wPS.rA, wuF, wuG, wuA, wuRI, wuRJ, wuRA, wnO, wnI, wnJ, wnA]
abbrev gNetworks_itemCount (S : wPS) (a : Nat) : Int32 := S.fI a 9
abbrev wu_Networks_itemCount (S : wPS) (a : Nat) (v : Int32) : wPS := wuF S a 9 v
theorem wSt_7_9 (cy : Nat → ClassId) (S : wPS) {a : Nat} (h : S.K a = 7) (v : Int32) (b : Nat) : va_up (wkF cy S) a (.inr (9, [va_rf (S.fA a 0), va_rf (S.fA a 1), va_rf (S.fA a 2), va_rf (S.fA a 3), va_rf (S.fA a 4), va_rf (S.fA a 5), va_rf (S.fA a 6), va_rf (S.fA a 7), .int (S.fI a 8), .int v, .int (S.fI a 10)])) b = wkF cy (wuF S a 9 v) b := by
  by_cases hb : b = a
  · subst hb
    have h : S.2.1 b = 7 := h
    simp [wkF, va_up, h, wPS.L, wPS.K, wPS.fI, wPS.fJ, wPS.fA, wPS.len, wPS.rI, wPS.rJ, wPS.rA, wuF, wuG, wuA, wuRI, wuRJ, wuRA, wnO, wnI, wnJ, wnA]
  · simp [wkF, va_up, hb, wPS.L, wPS.K, wPS.fI, wPS.fJ, wPS.fA, wPS.len, wPS.rI, wPS.rJ, wPS.rA, wuF, wuG, wuA, wuRI, wuRJ, wuRA, wnO, wnI, wnJ, wnA]
abbrev gNetworks_reached (S : wPS) (a : Nat) : Int32 := S.fI a 10
abbrev wu_Networks_reached (S : wPS) (a : Nat) (v : Int32) : wPS := wuF S a 10 v
theorem wSt_7_10 (cy : Nat → ClassId) (S : wPS) {a : Nat} (h : S.K a = 7) (v : Int32) (b : Nat) : va_up (wkF cy S) a (.inr (9, [va_rf (S.fA a 0), va_rf (S.fA a 1), va_rf (S.fA a 2), va_rf (S.fA a 3), va_rf (S.fA a 4), va_rf (S.fA a 5), va_rf (S.fA a 6), va_rf (S.fA a 7), .int (S.fI a 8), .int (S.fI a 9), .int v])) b = wkF cy (wuF S a 10 v) b := by
  by_cases hb : b = a
  · subst hb
    have h : S.2.1 b = 7 := h
    simp [wkF, va_up, h, wPS.L, wPS.K, wPS.fI, wPS.fJ, wPS.fA, wPS.len, wPS.rI, wPS.rJ, wPS.rA, wuF, wuG, wuA, wuRI, wuRJ, wuRA, wnO, wnI, wnJ, wnA]
  · simp [wkF, va_up, hb, wPS.L, wPS.K, wPS.fI, wPS.fJ, wPS.fA, wPS.len, wPS.rI, wPS.rJ, wPS.rA, wuF, wuG, wuA, wuRI, wuRJ, wuRA, wnO, wnI, wnJ, wnA]
theorem wNw_7 (cy : Nat → ClassId) (S : wPS) (a b : Nat) : va_up (wkF cy S) a (.inr (9, [.null, .null, .null, .null, .null, .null, .null, .null, .int 0, .int 0, .int 0])) b = wkF cy (wnO S a 7) b := by
  by_cases hb : b = a
  · subst hb
    simp [wkF, va_up, va_rf, wPS.L, wPS.K, wPS.fI, wPS.fJ, wPS.fA, wPS.len, wPS.rI, wPS.rJ, wPS.rA, wuF, wuG, wuA, wuRI, wuRJ, wuRA, wnO, wnI, wnJ, wnA]
  · simp [wkF, va_up, hb, wPS.L, wPS.K, wPS.fI, wPS.fJ, wPS.fA, wPS.len, wPS.rI, wPS.rJ, wPS.rA, wuF, wuG, wuA, wuRI, wuRJ, wuRA, wnO, wnI, wnJ, wnA]
abbrev gNumbers_point (S : wPS) (a : Nat) : Option Nat := S.fA a 0
abbrev wu_Numbers_point (S : wPS) (a : Nat) (v : Option Nat) : wPS := wuA S a 0 v
theorem wSt_8_0 (cy : Nat → ClassId) (S : wPS) {a : Nat} (h : S.K a = 8) (v : Option Nat) (b : Nat) : va_up (wkF cy S) a (.inr (10, [va_rf v, va_rf (S.fA a 1), va_rf (S.fA a 2), .int (S.fI a 3), va_rf (S.fA a 4), va_rf (S.fA a 5), va_rf (S.fA a 6), va_rf (S.fA a 7), .int (S.fI a 8)])) b = wkF cy (wuA S a 0 v) b := by
  by_cases hb : b = a
  · subst hb
    have h : S.2.1 b = 8 := h
    simp [wkF, va_up, h, wPS.L, wPS.K, wPS.fI, wPS.fJ, wPS.fA, wPS.len, wPS.rI, wPS.rJ, wPS.rA, wuF, wuG, wuA, wuRI, wuRJ, wuRA, wnO, wnI, wnJ, wnA]
  · simp [wkF, va_up, hb, wPS.L, wPS.K, wPS.fI, wPS.fJ, wPS.fA, wPS.len, wPS.rI, wPS.rJ, wPS.rA, wuF, wuG, wuA, wuRI, wuRJ, wuRA, wnO, wnI, wnJ, wnA]
abbrev gNumbers_basis (S : wPS) (a : Nat) : Option Nat := S.fA a 1
abbrev wu_Numbers_basis (S : wPS) (a : Nat) (v : Option Nat) : wPS := wuA S a 1 v
theorem wSt_8_1 (cy : Nat → ClassId) (S : wPS) {a : Nat} (h : S.K a = 8) (v : Option Nat) (b : Nat) : va_up (wkF cy S) a (.inr (10, [va_rf (S.fA a 0), va_rf v, va_rf (S.fA a 2), .int (S.fI a 3), va_rf (S.fA a 4), va_rf (S.fA a 5), va_rf (S.fA a 6), va_rf (S.fA a 7), .int (S.fI a 8)])) b = wkF cy (wuA S a 1 v) b := by
  by_cases hb : b = a
  · subst hb
    have h : S.2.1 b = 8 := h
    simp [wkF, va_up, h, wPS.L, wPS.K, wPS.fI, wPS.fJ, wPS.fA, wPS.len, wPS.rI, wPS.rJ, wPS.rA, wuF, wuG, wuA, wuRI, wuRJ, wuRA, wnO, wnI, wnJ, wnA]
  · simp [wkF, va_up, hb, wPS.L, wPS.K, wPS.fI, wPS.fJ, wPS.fA, wPS.len, wPS.rI, wPS.rJ, wPS.rA, wuF, wuG, wuA, wuRI, wuRJ, wuRA, wnO, wnI, wnJ, wnA]
abbrev gNumbers_amounts (S : wPS) (a : Nat) : Option Nat := S.fA a 2
abbrev wu_Numbers_amounts (S : wPS) (a : Nat) (v : Option Nat) : wPS := wuA S a 2 v
theorem wSt_8_2 (cy : Nat → ClassId) (S : wPS) {a : Nat} (h : S.K a = 8) (v : Option Nat) (b : Nat) : va_up (wkF cy S) a (.inr (10, [va_rf (S.fA a 0), va_rf (S.fA a 1), va_rf v, .int (S.fI a 3), va_rf (S.fA a 4), va_rf (S.fA a 5), va_rf (S.fA a 6), va_rf (S.fA a 7), .int (S.fI a 8)])) b = wkF cy (wuA S a 2 v) b := by
  by_cases hb : b = a
  · subst hb
    have h : S.2.1 b = 8 := h
    simp [wkF, va_up, h, wPS.L, wPS.K, wPS.fI, wPS.fJ, wPS.fA, wPS.len, wPS.rI, wPS.rJ, wPS.rA, wuF, wuG, wuA, wuRI, wuRJ, wuRA, wnO, wnI, wnJ, wnA]
  · simp [wkF, va_up, hb, wPS.L, wPS.K, wPS.fI, wPS.fJ, wPS.fA, wPS.len, wPS.rI, wPS.rJ, wPS.rA, wuF, wuG, wuA, wuRI, wuRJ, wuRA, wnO, wnI, wnJ, wnA]
abbrev gNumbers_basisCount (S : wPS) (a : Nat) : Int32 := S.fI a 3
abbrev wu_Numbers_basisCount (S : wPS) (a : Nat) (v : Int32) : wPS := wuF S a 3 v
theorem wSt_8_3 (cy : Nat → ClassId) (S : wPS) {a : Nat} (h : S.K a = 8) (v : Int32) (b : Nat) : va_up (wkF cy S) a (.inr (10, [va_rf (S.fA a 0), va_rf (S.fA a 1), va_rf (S.fA a 2), .int v, va_rf (S.fA a 4), va_rf (S.fA a 5), va_rf (S.fA a 6), va_rf (S.fA a 7), .int (S.fI a 8)])) b = wkF cy (wuF S a 3 v) b := by
  by_cases hb : b = a
  · subst hb
    have h : S.2.1 b = 8 := h
    simp [wkF, va_up, h, wPS.L, wPS.K, wPS.fI, wPS.fJ, wPS.fA, wPS.len, wPS.rI, wPS.rJ, wPS.rA, wuF, wuG, wuA, wuRI, wuRJ, wuRA, wnO, wnI, wnJ, wnA]
  · simp [wkF, va_up, hb, wPS.L, wPS.K, wPS.fI, wPS.fJ, wPS.fA, wPS.len, wPS.rI, wPS.rJ, wPS.rA, wuF, wuG, wuA, wuRI, wuRJ, wuRA, wnO, wnI, wnJ, wnA]
abbrev gNumbers_chain (S : wPS) (a : Nat) : Option Nat := S.fA a 4
abbrev wu_Numbers_chain (S : wPS) (a : Nat) (v : Option Nat) : wPS := wuA S a 4 v
theorem wSt_8_4 (cy : Nat → ClassId) (S : wPS) {a : Nat} (h : S.K a = 8) (v : Option Nat) (b : Nat) : va_up (wkF cy S) a (.inr (10, [va_rf (S.fA a 0), va_rf (S.fA a 1), va_rf (S.fA a 2), .int (S.fI a 3), va_rf v, va_rf (S.fA a 5), va_rf (S.fA a 6), va_rf (S.fA a 7), .int (S.fI a 8)])) b = wkF cy (wuA S a 4 v) b := by
  by_cases hb : b = a
  · subst hb
    have h : S.2.1 b = 8 := h
    simp [wkF, va_up, h, wPS.L, wPS.K, wPS.fI, wPS.fJ, wPS.fA, wPS.len, wPS.rI, wPS.rJ, wPS.rA, wuF, wuG, wuA, wuRI, wuRJ, wuRA, wnO, wnI, wnJ, wnA]
  · simp [wkF, va_up, hb, wPS.L, wPS.K, wPS.fI, wPS.fJ, wPS.fA, wPS.len, wPS.rI, wPS.rJ, wPS.rA, wuF, wuG, wuA, wuRI, wuRJ, wuRA, wnO, wnI, wnJ, wnA]
abbrev gNumbers_degrees (S : wPS) (a : Nat) : Option Nat := S.fA a 5
abbrev wu_Numbers_degrees (S : wPS) (a : Nat) (v : Option Nat) : wPS := wuA S a 5 v
theorem wSt_8_5 (cy : Nat → ClassId) (S : wPS) {a : Nat} (h : S.K a = 8) (v : Option Nat) (b : Nat) : va_up (wkF cy S) a (.inr (10, [va_rf (S.fA a 0), va_rf (S.fA a 1), va_rf (S.fA a 2), .int (S.fI a 3), va_rf (S.fA a 4), va_rf v, va_rf (S.fA a 6), va_rf (S.fA a 7), .int (S.fI a 8)])) b = wkF cy (wuA S a 5 v) b := by
  by_cases hb : b = a
  · subst hb
    have h : S.2.1 b = 8 := h
    simp [wkF, va_up, h, wPS.L, wPS.K, wPS.fI, wPS.fJ, wPS.fA, wPS.len, wPS.rI, wPS.rJ, wPS.rA, wuF, wuG, wuA, wuRI, wuRJ, wuRA, wnO, wnI, wnJ, wnA]
  · simp [wkF, va_up, hb, wPS.L, wPS.K, wPS.fI, wPS.fJ, wPS.fA, wPS.len, wPS.rI, wPS.rJ, wPS.rA, wuF, wuG, wuA, wuRI, wuRJ, wuRA, wnO, wnI, wnJ, wnA]
abbrev gNumbers_left (S : wPS) (a : Nat) : Option Nat := S.fA a 6
abbrev wu_Numbers_left (S : wPS) (a : Nat) (v : Option Nat) : wPS := wuA S a 6 v
theorem wSt_8_6 (cy : Nat → ClassId) (S : wPS) {a : Nat} (h : S.K a = 8) (v : Option Nat) (b : Nat) : va_up (wkF cy S) a (.inr (10, [va_rf (S.fA a 0), va_rf (S.fA a 1), va_rf (S.fA a 2), .int (S.fI a 3), va_rf (S.fA a 4), va_rf (S.fA a 5), va_rf v, va_rf (S.fA a 7), .int (S.fI a 8)])) b = wkF cy (wuA S a 6 v) b := by
  by_cases hb : b = a
  · subst hb
    have h : S.2.1 b = 8 := h
    simp [wkF, va_up, h, wPS.L, wPS.K, wPS.fI, wPS.fJ, wPS.fA, wPS.len, wPS.rI, wPS.rJ, wPS.rA, wuF, wuG, wuA, wuRI, wuRJ, wuRA, wnO, wnI, wnJ, wnA]
  · simp [wkF, va_up, hb, wPS.L, wPS.K, wPS.fI, wPS.fJ, wPS.fA, wPS.len, wPS.rI, wPS.rJ, wPS.rA, wuF, wuG, wuA, wuRI, wuRJ, wuRA, wnO, wnI, wnJ, wnA]
abbrev gNumbers_often (S : wPS) (a : Nat) : Option Nat := S.fA a 7
abbrev wu_Numbers_often (S : wPS) (a : Nat) (v : Option Nat) : wPS := wuA S a 7 v
theorem wSt_8_7 (cy : Nat → ClassId) (S : wPS) {a : Nat} (h : S.K a = 8) (v : Option Nat) (b : Nat) : va_up (wkF cy S) a (.inr (10, [va_rf (S.fA a 0), va_rf (S.fA a 1), va_rf (S.fA a 2), .int (S.fI a 3), va_rf (S.fA a 4), va_rf (S.fA a 5), va_rf (S.fA a 6), va_rf v, .int (S.fI a 8)])) b = wkF cy (wuA S a 7 v) b := by
  by_cases hb : b = a
  · subst hb
    have h : S.2.1 b = 8 := h
    simp [wkF, va_up, h, wPS.L, wPS.K, wPS.fI, wPS.fJ, wPS.fA, wPS.len, wPS.rI, wPS.rJ, wPS.rA, wuF, wuG, wuA, wuRI, wuRJ, wuRA, wnO, wnI, wnJ, wnA]
  · simp [wkF, va_up, hb, wPS.L, wPS.K, wPS.fI, wPS.fJ, wPS.fA, wPS.len, wPS.rI, wPS.rJ, wPS.rA, wuF, wuG, wuA, wuRI, wuRJ, wuRA, wnO, wnI, wnJ, wnA]
abbrev gNumbers_chainCount (S : wPS) (a : Nat) : Int32 := S.fI a 8
abbrev wu_Numbers_chainCount (S : wPS) (a : Nat) (v : Int32) : wPS := wuF S a 8 v
theorem wSt_8_8 (cy : Nat → ClassId) (S : wPS) {a : Nat} (h : S.K a = 8) (v : Int32) (b : Nat) : va_up (wkF cy S) a (.inr (10, [va_rf (S.fA a 0), va_rf (S.fA a 1), va_rf (S.fA a 2), .int (S.fI a 3), va_rf (S.fA a 4), va_rf (S.fA a 5), va_rf (S.fA a 6), va_rf (S.fA a 7), .int v])) b = wkF cy (wuF S a 8 v) b := by
  by_cases hb : b = a
  · subst hb
    have h : S.2.1 b = 8 := h
    simp [wkF, va_up, h, wPS.L, wPS.K, wPS.fI, wPS.fJ, wPS.fA, wPS.len, wPS.rI, wPS.rJ, wPS.rA, wuF, wuG, wuA, wuRI, wuRJ, wuRA, wnO, wnI, wnJ, wnA]
  · simp [wkF, va_up, hb, wPS.L, wPS.K, wPS.fI, wPS.fJ, wPS.fA, wPS.len, wPS.rI, wPS.rJ, wPS.rA, wuF, wuG, wuA, wuRI, wuRJ, wuRA, wnO, wnI, wnJ, wnA]
theorem wNw_8 (cy : Nat → ClassId) (S : wPS) (a b : Nat) : va_up (wkF cy S) a (.inr (10, [.null, .null, .null, .int 0, .null, .null, .null, .null, .int 0])) b = wkF cy (wnO S a 8) b := by
  by_cases hb : b = a
  · subst hb
    simp [wkF, va_up, va_rf, wPS.L, wPS.K, wPS.fI, wPS.fJ, wPS.fA, wPS.len, wPS.rI, wPS.rJ, wPS.rA, wuF, wuG, wuA, wuRI, wuRJ, wuRA, wnO, wnI, wnJ, wnA]
  · simp [wkF, va_up, hb, wPS.L, wPS.K, wPS.fI, wPS.fJ, wPS.fA, wPS.len, wPS.rI, wPS.rJ, wPS.rA, wuF, wuG, wuA, wuRI, wuRJ, wuRA, wnO, wnI, wnJ, wnA]
abbrev gRow_numbers (S : wPS) (a : Nat) : Option Nat := S.fA a 0
abbrev wu_Row_numbers (S : wPS) (a : Nat) (v : Option Nat) : wPS := wuA S a 0 v
theorem wSt_9_0 (cy : Nat → ClassId) (S : wPS) {a : Nat} (h : S.K a = 9) (v : Option Nat) (b : Nat) : va_up (wkF cy S) a (.inr (11, [va_rf v, .int (S.fI a 1)])) b = wkF cy (wuA S a 0 v) b := by
  by_cases hb : b = a
  · subst hb
    have h : S.2.1 b = 9 := h
    simp [wkF, va_up, h, wPS.L, wPS.K, wPS.fI, wPS.fJ, wPS.fA, wPS.len, wPS.rI, wPS.rJ, wPS.rA, wuF, wuG, wuA, wuRI, wuRJ, wuRA, wnO, wnI, wnJ, wnA]
  · simp [wkF, va_up, hb, wPS.L, wPS.K, wPS.fI, wPS.fJ, wPS.fA, wPS.len, wPS.rI, wPS.rJ, wPS.rA, wuF, wuG, wuA, wuRI, wuRJ, wuRA, wnO, wnI, wnJ, wnA]
abbrev gRow_count (S : wPS) (a : Nat) : Int32 := S.fI a 1
abbrev wu_Row_count (S : wPS) (a : Nat) (v : Int32) : wPS := wuF S a 1 v
theorem wSt_9_1 (cy : Nat → ClassId) (S : wPS) {a : Nat} (h : S.K a = 9) (v : Int32) (b : Nat) : va_up (wkF cy S) a (.inr (11, [va_rf (S.fA a 0), .int v])) b = wkF cy (wuF S a 1 v) b := by
  by_cases hb : b = a
  · subst hb
    have h : S.2.1 b = 9 := h
    simp [wkF, va_up, h, wPS.L, wPS.K, wPS.fI, wPS.fJ, wPS.fA, wPS.len, wPS.rI, wPS.rJ, wPS.rA, wuF, wuG, wuA, wuRI, wuRJ, wuRA, wnO, wnI, wnJ, wnA]
  · simp [wkF, va_up, hb, wPS.L, wPS.K, wPS.fI, wPS.fJ, wPS.fA, wPS.len, wPS.rI, wPS.rJ, wPS.rA, wuF, wuG, wuA, wuRI, wuRJ, wuRA, wnO, wnI, wnJ, wnA]
theorem wNw_9 (cy : Nat → ClassId) (S : wPS) (a b : Nat) : va_up (wkF cy S) a (.inr (11, [.null, .int 0])) b = wkF cy (wnO S a 9) b := by
  by_cases hb : b = a
  · subst hb
    simp [wkF, va_up, va_rf, wPS.L, wPS.K, wPS.fI, wPS.fJ, wPS.fA, wPS.len, wPS.rI, wPS.rJ, wPS.rA, wuF, wuG, wuA, wuRI, wuRJ, wuRA, wnO, wnI, wnJ, wnA]
  · simp [wkF, va_up, hb, wPS.L, wPS.K, wPS.fI, wPS.fJ, wPS.fA, wPS.len, wPS.rI, wPS.rJ, wPS.rA, wuF, wuG, wuA, wuRI, wuRJ, wuRA, wnO, wnI, wnJ, wnA]
abbrev gWords_leads (S : wPS) (a : Nat) : Option Nat := S.fA a 0
abbrev wu_Words_leads (S : wPS) (a : Nat) (v : Option Nat) : wPS := wuA S a 0 v
theorem wSt_10_0 (cy : Nat → ClassId) (S : wPS) {a : Nat} (h : S.K a = 10) (v : Option Nat) (b : Nat) : va_up (wkF cy S) a (.inr (12, [va_rf v, va_rf (S.fA a 1), va_rf (S.fA a 2), va_rf (S.fA a 3), va_rf (S.fA a 4), va_rf (S.fA a 5), va_rf (S.fA a 6), va_rf (S.fA a 7), va_rf (S.fA a 8), .int (S.fI a 9), .int (S.fI a 10), .int (S.fI a 11)])) b = wkF cy (wuA S a 0 v) b := by
  by_cases hb : b = a
  · subst hb
    have h : S.2.1 b = 10 := h
    simp [wkF, va_up, h, wPS.L, wPS.K, wPS.fI, wPS.fJ, wPS.fA, wPS.len, wPS.rI, wPS.rJ, wPS.rA, wuF, wuG, wuA, wuRI, wuRJ, wuRA, wnO, wnI, wnJ, wnA]
  · simp [wkF, va_up, hb, wPS.L, wPS.K, wPS.fI, wPS.fJ, wPS.fA, wPS.len, wPS.rI, wPS.rJ, wPS.rA, wuF, wuG, wuA, wuRI, wuRJ, wuRA, wnO, wnI, wnJ, wnA]
abbrev gWords_goal (S : wPS) (a : Nat) : Option Nat := S.fA a 1
abbrev wu_Words_goal (S : wPS) (a : Nat) (v : Option Nat) : wPS := wuA S a 1 v
theorem wSt_10_1 (cy : Nat → ClassId) (S : wPS) {a : Nat} (h : S.K a = 10) (v : Option Nat) (b : Nat) : va_up (wkF cy S) a (.inr (12, [va_rf (S.fA a 0), va_rf v, va_rf (S.fA a 2), va_rf (S.fA a 3), va_rf (S.fA a 4), va_rf (S.fA a 5), va_rf (S.fA a 6), va_rf (S.fA a 7), va_rf (S.fA a 8), .int (S.fI a 9), .int (S.fI a 10), .int (S.fI a 11)])) b = wkF cy (wuA S a 1 v) b := by
  by_cases hb : b = a
  · subst hb
    have h : S.2.1 b = 10 := h
    simp [wkF, va_up, h, wPS.L, wPS.K, wPS.fI, wPS.fJ, wPS.fA, wPS.len, wPS.rI, wPS.rJ, wPS.rA, wuF, wuG, wuA, wuRI, wuRJ, wuRA, wnO, wnI, wnJ, wnA]
  · simp [wkF, va_up, hb, wPS.L, wPS.K, wPS.fI, wPS.fJ, wPS.fA, wPS.len, wPS.rI, wPS.rJ, wPS.rA, wuF, wuG, wuA, wuRI, wuRJ, wuRA, wnO, wnI, wnJ, wnA]
abbrev gWords_points (S : wPS) (a : Nat) : Option Nat := S.fA a 2
abbrev wu_Words_points (S : wPS) (a : Nat) (v : Option Nat) : wPS := wuA S a 2 v
theorem wSt_10_2 (cy : Nat → ClassId) (S : wPS) {a : Nat} (h : S.K a = 10) (v : Option Nat) (b : Nat) : va_up (wkF cy S) a (.inr (12, [va_rf (S.fA a 0), va_rf (S.fA a 1), va_rf v, va_rf (S.fA a 3), va_rf (S.fA a 4), va_rf (S.fA a 5), va_rf (S.fA a 6), va_rf (S.fA a 7), va_rf (S.fA a 8), .int (S.fI a 9), .int (S.fI a 10), .int (S.fI a 11)])) b = wkF cy (wuA S a 2 v) b := by
  by_cases hb : b = a
  · subst hb
    have h : S.2.1 b = 10 := h
    simp [wkF, va_up, h, wPS.L, wPS.K, wPS.fI, wPS.fJ, wPS.fA, wPS.len, wPS.rI, wPS.rJ, wPS.rA, wuF, wuG, wuA, wuRI, wuRJ, wuRA, wnO, wnI, wnJ, wnA]
  · simp [wkF, va_up, hb, wPS.L, wPS.K, wPS.fI, wPS.fJ, wPS.fA, wPS.len, wPS.rI, wPS.rJ, wPS.rA, wuF, wuG, wuA, wuRI, wuRJ, wuRA, wnO, wnI, wnJ, wnA]
abbrev gWords_ledPoints (S : wPS) (a : Nat) : Option Nat := S.fA a 3
abbrev wu_Words_ledPoints (S : wPS) (a : Nat) (v : Option Nat) : wPS := wuA S a 3 v
theorem wSt_10_3 (cy : Nat → ClassId) (S : wPS) {a : Nat} (h : S.K a = 10) (v : Option Nat) (b : Nat) : va_up (wkF cy S) a (.inr (12, [va_rf (S.fA a 0), va_rf (S.fA a 1), va_rf (S.fA a 2), va_rf v, va_rf (S.fA a 4), va_rf (S.fA a 5), va_rf (S.fA a 6), va_rf (S.fA a 7), va_rf (S.fA a 8), .int (S.fI a 9), .int (S.fI a 10), .int (S.fI a 11)])) b = wkF cy (wuA S a 3 v) b := by
  by_cases hb : b = a
  · subst hb
    have h : S.2.1 b = 10 := h
    simp [wkF, va_up, h, wPS.L, wPS.K, wPS.fI, wPS.fJ, wPS.fA, wPS.len, wPS.rI, wPS.rJ, wPS.rA, wuF, wuG, wuA, wuRI, wuRJ, wuRA, wnO, wnI, wnJ, wnA]
  · simp [wkF, va_up, hb, wPS.L, wPS.K, wPS.fI, wPS.fJ, wPS.fA, wPS.len, wPS.rI, wPS.rJ, wPS.rA, wuF, wuG, wuA, wuRI, wuRJ, wuRA, wnO, wnI, wnJ, wnA]
abbrev gWords_queue (S : wPS) (a : Nat) : Option Nat := S.fA a 4
abbrev wu_Words_queue (S : wPS) (a : Nat) (v : Option Nat) : wPS := wuA S a 4 v
theorem wSt_10_4 (cy : Nat → ClassId) (S : wPS) {a : Nat} (h : S.K a = 10) (v : Option Nat) (b : Nat) : va_up (wkF cy S) a (.inr (12, [va_rf (S.fA a 0), va_rf (S.fA a 1), va_rf (S.fA a 2), va_rf (S.fA a 3), va_rf v, va_rf (S.fA a 5), va_rf (S.fA a 6), va_rf (S.fA a 7), va_rf (S.fA a 8), .int (S.fI a 9), .int (S.fI a 10), .int (S.fI a 11)])) b = wkF cy (wuA S a 4 v) b := by
  by_cases hb : b = a
  · subst hb
    have h : S.2.1 b = 10 := h
    simp [wkF, va_up, h, wPS.L, wPS.K, wPS.fI, wPS.fJ, wPS.fA, wPS.len, wPS.rI, wPS.rJ, wPS.rA, wuF, wuG, wuA, wuRI, wuRJ, wuRA, wnO, wnI, wnJ, wnA]
  · simp [wkF, va_up, hb, wPS.L, wPS.K, wPS.fI, wPS.fJ, wPS.fA, wPS.len, wPS.rI, wPS.rJ, wPS.rA, wuF, wuG, wuA, wuRI, wuRJ, wuRA, wnO, wnI, wnJ, wnA]
abbrev gWords_aheadOf (S : wPS) (a : Nat) : Option Nat := S.fA a 5
abbrev wu_Words_aheadOf (S : wPS) (a : Nat) (v : Option Nat) : wPS := wuA S a 5 v
theorem wSt_10_5 (cy : Nat → ClassId) (S : wPS) {a : Nat} (h : S.K a = 10) (v : Option Nat) (b : Nat) : va_up (wkF cy S) a (.inr (12, [va_rf (S.fA a 0), va_rf (S.fA a 1), va_rf (S.fA a 2), va_rf (S.fA a 3), va_rf (S.fA a 4), va_rf v, va_rf (S.fA a 6), va_rf (S.fA a 7), va_rf (S.fA a 8), .int (S.fI a 9), .int (S.fI a 10), .int (S.fI a 11)])) b = wkF cy (wuA S a 5 v) b := by
  by_cases hb : b = a
  · subst hb
    have h : S.2.1 b = 10 := h
    simp [wkF, va_up, h, wPS.L, wPS.K, wPS.fI, wPS.fJ, wPS.fA, wPS.len, wPS.rI, wPS.rJ, wPS.rA, wuF, wuG, wuA, wuRI, wuRJ, wuRA, wnO, wnI, wnJ, wnA]
  · simp [wkF, va_up, hb, wPS.L, wPS.K, wPS.fI, wPS.fJ, wPS.fA, wPS.len, wPS.rI, wPS.rJ, wPS.rA, wuF, wuG, wuA, wuRI, wuRJ, wuRA, wnO, wnI, wnJ, wnA]
abbrev gWords_cameBy (S : wPS) (a : Nat) : Option Nat := S.fA a 6
abbrev wu_Words_cameBy (S : wPS) (a : Nat) (v : Option Nat) : wPS := wuA S a 6 v
theorem wSt_10_6 (cy : Nat → ClassId) (S : wPS) {a : Nat} (h : S.K a = 10) (v : Option Nat) (b : Nat) : va_up (wkF cy S) a (.inr (12, [va_rf (S.fA a 0), va_rf (S.fA a 1), va_rf (S.fA a 2), va_rf (S.fA a 3), va_rf (S.fA a 4), va_rf (S.fA a 5), va_rf v, va_rf (S.fA a 7), va_rf (S.fA a 8), .int (S.fI a 9), .int (S.fI a 10), .int (S.fI a 11)])) b = wkF cy (wuA S a 6 v) b := by
  by_cases hb : b = a
  · subst hb
    have h : S.2.1 b = 10 := h
    simp [wkF, va_up, h, wPS.L, wPS.K, wPS.fI, wPS.fJ, wPS.fA, wPS.len, wPS.rI, wPS.rJ, wPS.rA, wuF, wuG, wuA, wuRI, wuRJ, wuRA, wnO, wnI, wnJ, wnA]
  · simp [wkF, va_up, hb, wPS.L, wPS.K, wPS.fI, wPS.fJ, wPS.fA, wPS.len, wPS.rI, wPS.rJ, wPS.rA, wuF, wuG, wuA, wuRI, wuRJ, wuRA, wnO, wnI, wnJ, wnA]
abbrev gWords_steps (S : wPS) (a : Nat) : Option Nat := S.fA a 7
abbrev wu_Words_steps (S : wPS) (a : Nat) (v : Option Nat) : wPS := wuA S a 7 v
theorem wSt_10_7 (cy : Nat → ClassId) (S : wPS) {a : Nat} (h : S.K a = 10) (v : Option Nat) (b : Nat) : va_up (wkF cy S) a (.inr (12, [va_rf (S.fA a 0), va_rf (S.fA a 1), va_rf (S.fA a 2), va_rf (S.fA a 3), va_rf (S.fA a 4), va_rf (S.fA a 5), va_rf (S.fA a 6), va_rf v, va_rf (S.fA a 8), .int (S.fI a 9), .int (S.fI a 10), .int (S.fI a 11)])) b = wkF cy (wuA S a 7 v) b := by
  by_cases hb : b = a
  · subst hb
    have h : S.2.1 b = 10 := h
    simp [wkF, va_up, h, wPS.L, wPS.K, wPS.fI, wPS.fJ, wPS.fA, wPS.len, wPS.rI, wPS.rJ, wPS.rA, wuF, wuG, wuA, wuRI, wuRJ, wuRA, wnO, wnI, wnJ, wnA]
  · simp [wkF, va_up, hb, wPS.L, wPS.K, wPS.fI, wPS.fJ, wPS.fA, wPS.len, wPS.rI, wPS.rJ, wPS.rA, wuF, wuG, wuA, wuRI, wuRJ, wuRA, wnO, wnI, wnJ, wnA]
abbrev gWords_next (S : wPS) (a : Nat) : Option Nat := S.fA a 8
abbrev wu_Words_next (S : wPS) (a : Nat) (v : Option Nat) : wPS := wuA S a 8 v
theorem wSt_10_8 (cy : Nat → ClassId) (S : wPS) {a : Nat} (h : S.K a = 10) (v : Option Nat) (b : Nat) : va_up (wkF cy S) a (.inr (12, [va_rf (S.fA a 0), va_rf (S.fA a 1), va_rf (S.fA a 2), va_rf (S.fA a 3), va_rf (S.fA a 4), va_rf (S.fA a 5), va_rf (S.fA a 6), va_rf (S.fA a 7), va_rf v, .int (S.fI a 9), .int (S.fI a 10), .int (S.fI a 11)])) b = wkF cy (wuA S a 8 v) b := by
  by_cases hb : b = a
  · subst hb
    have h : S.2.1 b = 10 := h
    simp [wkF, va_up, h, wPS.L, wPS.K, wPS.fI, wPS.fJ, wPS.fA, wPS.len, wPS.rI, wPS.rJ, wPS.rA, wuF, wuG, wuA, wuRI, wuRJ, wuRA, wnO, wnI, wnJ, wnA]
  · simp [wkF, va_up, hb, wPS.L, wPS.K, wPS.fI, wPS.fJ, wPS.fA, wPS.len, wPS.rI, wPS.rJ, wPS.rA, wuF, wuG, wuA, wuRI, wuRJ, wuRA, wnO, wnI, wnJ, wnA]
abbrev gWords_nextCount (S : wPS) (a : Nat) : Int32 := S.fI a 9
abbrev wu_Words_nextCount (S : wPS) (a : Nat) (v : Int32) : wPS := wuF S a 9 v
theorem wSt_10_9 (cy : Nat → ClassId) (S : wPS) {a : Nat} (h : S.K a = 10) (v : Int32) (b : Nat) : va_up (wkF cy S) a (.inr (12, [va_rf (S.fA a 0), va_rf (S.fA a 1), va_rf (S.fA a 2), va_rf (S.fA a 3), va_rf (S.fA a 4), va_rf (S.fA a 5), va_rf (S.fA a 6), va_rf (S.fA a 7), va_rf (S.fA a 8), .int v, .int (S.fI a 10), .int (S.fI a 11)])) b = wkF cy (wuF S a 9 v) b := by
  by_cases hb : b = a
  · subst hb
    have h : S.2.1 b = 10 := h
    simp [wkF, va_up, h, wPS.L, wPS.K, wPS.fI, wPS.fJ, wPS.fA, wPS.len, wPS.rI, wPS.rJ, wPS.rA, wuF, wuG, wuA, wuRI, wuRJ, wuRA, wnO, wnI, wnJ, wnA]
  · simp [wkF, va_up, hb, wPS.L, wPS.K, wPS.fI, wPS.fJ, wPS.fA, wPS.len, wPS.rI, wPS.rJ, wPS.rA, wuF, wuG, wuA, wuRI, wuRJ, wuRA, wnO, wnI, wnJ, wnA]
abbrev gWords_size (S : wPS) (a : Nat) : Int32 := S.fI a 10
abbrev wu_Words_size (S : wPS) (a : Nat) (v : Int32) : wPS := wuF S a 10 v
theorem wSt_10_10 (cy : Nat → ClassId) (S : wPS) {a : Nat} (h : S.K a = 10) (v : Int32) (b : Nat) : va_up (wkF cy S) a (.inr (12, [va_rf (S.fA a 0), va_rf (S.fA a 1), va_rf (S.fA a 2), va_rf (S.fA a 3), va_rf (S.fA a 4), va_rf (S.fA a 5), va_rf (S.fA a 6), va_rf (S.fA a 7), va_rf (S.fA a 8), .int (S.fI a 9), .int v, .int (S.fI a 11)])) b = wkF cy (wuF S a 10 v) b := by
  by_cases hb : b = a
  · subst hb
    have h : S.2.1 b = 10 := h
    simp [wkF, va_up, h, wPS.L, wPS.K, wPS.fI, wPS.fJ, wPS.fA, wPS.len, wPS.rI, wPS.rJ, wPS.rA, wuF, wuG, wuA, wuRI, wuRJ, wuRA, wnO, wnI, wnJ, wnA]
  · simp [wkF, va_up, hb, wPS.L, wPS.K, wPS.fI, wPS.fJ, wPS.fA, wPS.len, wPS.rI, wPS.rJ, wPS.rA, wuF, wuG, wuA, wuRI, wuRJ, wuRA, wnO, wnI, wnJ, wnA]
abbrev gWords_lastUsed (S : wPS) (a : Nat) : Int32 := S.fI a 11
abbrev wu_Words_lastUsed (S : wPS) (a : Nat) (v : Int32) : wPS := wuF S a 11 v
theorem wSt_10_11 (cy : Nat → ClassId) (S : wPS) {a : Nat} (h : S.K a = 10) (v : Int32) (b : Nat) : va_up (wkF cy S) a (.inr (12, [va_rf (S.fA a 0), va_rf (S.fA a 1), va_rf (S.fA a 2), va_rf (S.fA a 3), va_rf (S.fA a 4), va_rf (S.fA a 5), va_rf (S.fA a 6), va_rf (S.fA a 7), va_rf (S.fA a 8), .int (S.fI a 9), .int (S.fI a 10), .int v])) b = wkF cy (wuF S a 11 v) b := by
  by_cases hb : b = a
  · subst hb
    have h : S.2.1 b = 10 := h
    simp [wkF, va_up, h, wPS.L, wPS.K, wPS.fI, wPS.fJ, wPS.fA, wPS.len, wPS.rI, wPS.rJ, wPS.rA, wuF, wuG, wuA, wuRI, wuRJ, wuRA, wnO, wnI, wnJ, wnA]
  · simp [wkF, va_up, hb, wPS.L, wPS.K, wPS.fI, wPS.fJ, wPS.fA, wPS.len, wPS.rI, wPS.rJ, wPS.rA, wuF, wuG, wuA, wuRI, wuRJ, wuRA, wnO, wnI, wnJ, wnA]
theorem wNw_10 (cy : Nat → ClassId) (S : wPS) (a b : Nat) : va_up (wkF cy S) a (.inr (12, [.null, .null, .null, .null, .null, .null, .null, .null, .null, .int 0, .int 0, .int 0])) b = wkF cy (wnO S a 10) b := by
  by_cases hb : b = a
  · subst hb
    simp [wkF, va_up, va_rf, wPS.L, wPS.K, wPS.fI, wPS.fJ, wPS.fA, wPS.len, wPS.rI, wPS.rJ, wPS.rA, wuF, wuG, wuA, wuRI, wuRJ, wuRA, wnO, wnI, wnJ, wnA]
  · simp [wkF, va_up, hb, wPS.L, wPS.K, wPS.fI, wPS.fJ, wPS.fA, wPS.len, wPS.rI, wPS.rJ, wPS.rA, wuF, wuG, wuA, wuRI, wuRJ, wuRA, wnO, wnI, wnJ, wnA]
abbrev gWitnessworks_house (S : wPS) (a : Nat) : Option Nat := S.fA a 0
abbrev wu_Witnessworks_house (S : wPS) (a : Nat) (v : Option Nat) : wPS := wuA S a 0 v
theorem wSt_11_0 (cy : Nat → ClassId) (S : wPS) {a : Nat} (h : S.K a = 11) (v : Option Nat) (b : Nat) : va_up (wkF cy S) a (.inr (13, [va_rf v, va_rf (S.fA a 1), .int (S.fI a 2), va_rf (S.fA a 3), va_rf (S.fA a 4), va_rf (S.fA a 5), va_rf (S.fA a 6), va_rf (S.fA a 7), va_rf (S.fA a 8), .int (S.fI a 9), .int (S.fI a 10), va_rf (S.fA a 11), va_rf (S.fA a 12), .int (S.fI a 13), va_rf (S.fA a 14), .int (S.fI a 15), va_rf (S.fA a 16), .int (S.fI a 17), .int (S.fI a 18)])) b = wkF cy (wuA S a 0 v) b := by
  by_cases hb : b = a
  · subst hb
    have h : S.2.1 b = 11 := h
    simp [wkF, va_up, h, wPS.L, wPS.K, wPS.fI, wPS.fJ, wPS.fA, wPS.len, wPS.rI, wPS.rJ, wPS.rA, wuF, wuG, wuA, wuRI, wuRJ, wuRA, wnO, wnI, wnJ, wnA]
  · simp [wkF, va_up, hb, wPS.L, wPS.K, wPS.fI, wPS.fJ, wPS.fA, wPS.len, wPS.rI, wPS.rJ, wPS.rA, wuF, wuG, wuA, wuRI, wuRJ, wuRA, wnO, wnI, wnJ, wnA]
abbrev gWitnessworks_book (S : wPS) (a : Nat) : Option Nat := S.fA a 1
abbrev wu_Witnessworks_book (S : wPS) (a : Nat) (v : Option Nat) : wPS := wuA S a 1 v
theorem wSt_11_1 (cy : Nat → ClassId) (S : wPS) {a : Nat} (h : S.K a = 11) (v : Option Nat) (b : Nat) : va_up (wkF cy S) a (.inr (13, [va_rf (S.fA a 0), va_rf v, .int (S.fI a 2), va_rf (S.fA a 3), va_rf (S.fA a 4), va_rf (S.fA a 5), va_rf (S.fA a 6), va_rf (S.fA a 7), va_rf (S.fA a 8), .int (S.fI a 9), .int (S.fI a 10), va_rf (S.fA a 11), va_rf (S.fA a 12), .int (S.fI a 13), va_rf (S.fA a 14), .int (S.fI a 15), va_rf (S.fA a 16), .int (S.fI a 17), .int (S.fI a 18)])) b = wkF cy (wuA S a 1 v) b := by
  by_cases hb : b = a
  · subst hb
    have h : S.2.1 b = 11 := h
    simp [wkF, va_up, h, wPS.L, wPS.K, wPS.fI, wPS.fJ, wPS.fA, wPS.len, wPS.rI, wPS.rJ, wPS.rA, wuF, wuG, wuA, wuRI, wuRJ, wuRA, wnO, wnI, wnJ, wnA]
  · simp [wkF, va_up, hb, wPS.L, wPS.K, wPS.fI, wPS.fJ, wPS.fA, wPS.len, wPS.rI, wPS.rJ, wPS.rA, wuF, wuG, wuA, wuRI, wuRJ, wuRA, wnO, wnI, wnJ, wnA]
abbrev gWitnessworks_entryCount (S : wPS) (a : Nat) : Int32 := S.fI a 2
abbrev wu_Witnessworks_entryCount (S : wPS) (a : Nat) (v : Int32) : wPS := wuF S a 2 v
theorem wSt_11_2 (cy : Nat → ClassId) (S : wPS) {a : Nat} (h : S.K a = 11) (v : Int32) (b : Nat) : va_up (wkF cy S) a (.inr (13, [va_rf (S.fA a 0), va_rf (S.fA a 1), .int v, va_rf (S.fA a 3), va_rf (S.fA a 4), va_rf (S.fA a 5), va_rf (S.fA a 6), va_rf (S.fA a 7), va_rf (S.fA a 8), .int (S.fI a 9), .int (S.fI a 10), va_rf (S.fA a 11), va_rf (S.fA a 12), .int (S.fI a 13), va_rf (S.fA a 14), .int (S.fI a 15), va_rf (S.fA a 16), .int (S.fI a 17), .int (S.fI a 18)])) b = wkF cy (wuF S a 2 v) b := by
  by_cases hb : b = a
  · subst hb
    have h : S.2.1 b = 11 := h
    simp [wkF, va_up, h, wPS.L, wPS.K, wPS.fI, wPS.fJ, wPS.fA, wPS.len, wPS.rI, wPS.rJ, wPS.rA, wuF, wuG, wuA, wuRI, wuRJ, wuRA, wnO, wnI, wnJ, wnA]
  · simp [wkF, va_up, hb, wPS.L, wPS.K, wPS.fI, wPS.fJ, wPS.fA, wPS.len, wPS.rI, wPS.rJ, wPS.rA, wuF, wuG, wuA, wuRI, wuRJ, wuRA, wnO, wnI, wnJ, wnA]
abbrev gWitnessworks_leaningChain (S : wPS) (a : Nat) : Option Nat := S.fA a 3
abbrev wu_Witnessworks_leaningChain (S : wPS) (a : Nat) (v : Option Nat) : wPS := wuA S a 3 v
theorem wSt_11_3 (cy : Nat → ClassId) (S : wPS) {a : Nat} (h : S.K a = 11) (v : Option Nat) (b : Nat) : va_up (wkF cy S) a (.inr (13, [va_rf (S.fA a 0), va_rf (S.fA a 1), .int (S.fI a 2), va_rf v, va_rf (S.fA a 4), va_rf (S.fA a 5), va_rf (S.fA a 6), va_rf (S.fA a 7), va_rf (S.fA a 8), .int (S.fI a 9), .int (S.fI a 10), va_rf (S.fA a 11), va_rf (S.fA a 12), .int (S.fI a 13), va_rf (S.fA a 14), .int (S.fI a 15), va_rf (S.fA a 16), .int (S.fI a 17), .int (S.fI a 18)])) b = wkF cy (wuA S a 3 v) b := by
  by_cases hb : b = a
  · subst hb
    have h : S.2.1 b = 11 := h
    simp [wkF, va_up, h, wPS.L, wPS.K, wPS.fI, wPS.fJ, wPS.fA, wPS.len, wPS.rI, wPS.rJ, wPS.rA, wuF, wuG, wuA, wuRI, wuRJ, wuRA, wnO, wnI, wnJ, wnA]
  · simp [wkF, va_up, hb, wPS.L, wPS.K, wPS.fI, wPS.fJ, wPS.fA, wPS.len, wPS.rI, wPS.rJ, wPS.rA, wuF, wuG, wuA, wuRI, wuRJ, wuRA, wnO, wnI, wnJ, wnA]
abbrev gWitnessworks_told (S : wPS) (a : Nat) : Option Nat := S.fA a 4
abbrev wu_Witnessworks_told (S : wPS) (a : Nat) (v : Option Nat) : wPS := wuA S a 4 v
theorem wSt_11_4 (cy : Nat → ClassId) (S : wPS) {a : Nat} (h : S.K a = 11) (v : Option Nat) (b : Nat) : va_up (wkF cy S) a (.inr (13, [va_rf (S.fA a 0), va_rf (S.fA a 1), .int (S.fI a 2), va_rf (S.fA a 3), va_rf v, va_rf (S.fA a 5), va_rf (S.fA a 6), va_rf (S.fA a 7), va_rf (S.fA a 8), .int (S.fI a 9), .int (S.fI a 10), va_rf (S.fA a 11), va_rf (S.fA a 12), .int (S.fI a 13), va_rf (S.fA a 14), .int (S.fI a 15), va_rf (S.fA a 16), .int (S.fI a 17), .int (S.fI a 18)])) b = wkF cy (wuA S a 4 v) b := by
  by_cases hb : b = a
  · subst hb
    have h : S.2.1 b = 11 := h
    simp [wkF, va_up, h, wPS.L, wPS.K, wPS.fI, wPS.fJ, wPS.fA, wPS.len, wPS.rI, wPS.rJ, wPS.rA, wuF, wuG, wuA, wuRI, wuRJ, wuRA, wnO, wnI, wnJ, wnA]
  · simp [wkF, va_up, hb, wPS.L, wPS.K, wPS.fI, wPS.fJ, wPS.fA, wPS.len, wPS.rI, wPS.rJ, wPS.rA, wuF, wuG, wuA, wuRI, wuRJ, wuRA, wnO, wnI, wnJ, wnA]
abbrev gWitnessworks_draft (S : wPS) (a : Nat) : Option Nat := S.fA a 5
abbrev wu_Witnessworks_draft (S : wPS) (a : Nat) (v : Option Nat) : wPS := wuA S a 5 v
theorem wSt_11_5 (cy : Nat → ClassId) (S : wPS) {a : Nat} (h : S.K a = 11) (v : Option Nat) (b : Nat) : va_up (wkF cy S) a (.inr (13, [va_rf (S.fA a 0), va_rf (S.fA a 1), .int (S.fI a 2), va_rf (S.fA a 3), va_rf (S.fA a 4), va_rf v, va_rf (S.fA a 6), va_rf (S.fA a 7), va_rf (S.fA a 8), .int (S.fI a 9), .int (S.fI a 10), va_rf (S.fA a 11), va_rf (S.fA a 12), .int (S.fI a 13), va_rf (S.fA a 14), .int (S.fI a 15), va_rf (S.fA a 16), .int (S.fI a 17), .int (S.fI a 18)])) b = wkF cy (wuA S a 5 v) b := by
  by_cases hb : b = a
  · subst hb
    have h : S.2.1 b = 11 := h
    simp [wkF, va_up, h, wPS.L, wPS.K, wPS.fI, wPS.fJ, wPS.fA, wPS.len, wPS.rI, wPS.rJ, wPS.rA, wuF, wuG, wuA, wuRI, wuRJ, wuRA, wnO, wnI, wnJ, wnA]
  · simp [wkF, va_up, hb, wPS.L, wPS.K, wPS.fI, wPS.fJ, wPS.fA, wPS.len, wPS.rI, wPS.rJ, wPS.rA, wuF, wuG, wuA, wuRI, wuRJ, wuRA, wnO, wnI, wnJ, wnA]
abbrev gWitnessworks_before (S : wPS) (a : Nat) : Option Nat := S.fA a 6
abbrev wu_Witnessworks_before (S : wPS) (a : Nat) (v : Option Nat) : wPS := wuA S a 6 v
theorem wSt_11_6 (cy : Nat → ClassId) (S : wPS) {a : Nat} (h : S.K a = 11) (v : Option Nat) (b : Nat) : va_up (wkF cy S) a (.inr (13, [va_rf (S.fA a 0), va_rf (S.fA a 1), .int (S.fI a 2), va_rf (S.fA a 3), va_rf (S.fA a 4), va_rf (S.fA a 5), va_rf v, va_rf (S.fA a 7), va_rf (S.fA a 8), .int (S.fI a 9), .int (S.fI a 10), va_rf (S.fA a 11), va_rf (S.fA a 12), .int (S.fI a 13), va_rf (S.fA a 14), .int (S.fI a 15), va_rf (S.fA a 16), .int (S.fI a 17), .int (S.fI a 18)])) b = wkF cy (wuA S a 6 v) b := by
  by_cases hb : b = a
  · subst hb
    have h : S.2.1 b = 11 := h
    simp [wkF, va_up, h, wPS.L, wPS.K, wPS.fI, wPS.fJ, wPS.fA, wPS.len, wPS.rI, wPS.rJ, wPS.rA, wuF, wuG, wuA, wuRI, wuRJ, wuRA, wnO, wnI, wnJ, wnA]
  · simp [wkF, va_up, hb, wPS.L, wPS.K, wPS.fI, wPS.fJ, wPS.fA, wPS.len, wPS.rI, wPS.rJ, wPS.rA, wuF, wuG, wuA, wuRI, wuRJ, wuRA, wnO, wnI, wnJ, wnA]
abbrev gWitnessworks_changeLetters (S : wPS) (a : Nat) : Option Nat := S.fA a 7
abbrev wu_Witnessworks_changeLetters (S : wPS) (a : Nat) (v : Option Nat) : wPS := wuA S a 7 v
theorem wSt_11_7 (cy : Nat → ClassId) (S : wPS) {a : Nat} (h : S.K a = 11) (v : Option Nat) (b : Nat) : va_up (wkF cy S) a (.inr (13, [va_rf (S.fA a 0), va_rf (S.fA a 1), .int (S.fI a 2), va_rf (S.fA a 3), va_rf (S.fA a 4), va_rf (S.fA a 5), va_rf (S.fA a 6), va_rf v, va_rf (S.fA a 8), .int (S.fI a 9), .int (S.fI a 10), va_rf (S.fA a 11), va_rf (S.fA a 12), .int (S.fI a 13), va_rf (S.fA a 14), .int (S.fI a 15), va_rf (S.fA a 16), .int (S.fI a 17), .int (S.fI a 18)])) b = wkF cy (wuA S a 7 v) b := by
  by_cases hb : b = a
  · subst hb
    have h : S.2.1 b = 11 := h
    simp [wkF, va_up, h, wPS.L, wPS.K, wPS.fI, wPS.fJ, wPS.fA, wPS.len, wPS.rI, wPS.rJ, wPS.rA, wuF, wuG, wuA, wuRI, wuRJ, wuRA, wnO, wnI, wnJ, wnA]
  · simp [wkF, va_up, hb, wPS.L, wPS.K, wPS.fI, wPS.fJ, wPS.fA, wPS.len, wPS.rI, wPS.rJ, wPS.rA, wuF, wuG, wuA, wuRI, wuRJ, wuRA, wnO, wnI, wnJ, wnA]
abbrev gWitnessworks_changedEntries (S : wPS) (a : Nat) : Option Nat := S.fA a 8
abbrev wu_Witnessworks_changedEntries (S : wPS) (a : Nat) (v : Option Nat) : wPS := wuA S a 8 v
theorem wSt_11_8 (cy : Nat → ClassId) (S : wPS) {a : Nat} (h : S.K a = 11) (v : Option Nat) (b : Nat) : va_up (wkF cy S) a (.inr (13, [va_rf (S.fA a 0), va_rf (S.fA a 1), .int (S.fI a 2), va_rf (S.fA a 3), va_rf (S.fA a 4), va_rf (S.fA a 5), va_rf (S.fA a 6), va_rf (S.fA a 7), va_rf v, .int (S.fI a 9), .int (S.fI a 10), va_rf (S.fA a 11), va_rf (S.fA a 12), .int (S.fI a 13), va_rf (S.fA a 14), .int (S.fI a 15), va_rf (S.fA a 16), .int (S.fI a 17), .int (S.fI a 18)])) b = wkF cy (wuA S a 8 v) b := by
  by_cases hb : b = a
  · subst hb
    have h : S.2.1 b = 11 := h
    simp [wkF, va_up, h, wPS.L, wPS.K, wPS.fI, wPS.fJ, wPS.fA, wPS.len, wPS.rI, wPS.rJ, wPS.rA, wuF, wuG, wuA, wuRI, wuRJ, wuRA, wnO, wnI, wnJ, wnA]
  · simp [wkF, va_up, hb, wPS.L, wPS.K, wPS.fI, wPS.fJ, wPS.fA, wPS.len, wPS.rI, wPS.rJ, wPS.rA, wuF, wuG, wuA, wuRI, wuRJ, wuRA, wnO, wnI, wnJ, wnA]
abbrev gWitnessworks_firstChange (S : wPS) (a : Nat) : Int32 := S.fI a 9
abbrev wu_Witnessworks_firstChange (S : wPS) (a : Nat) (v : Int32) : wPS := wuF S a 9 v
theorem wSt_11_9 (cy : Nat → ClassId) (S : wPS) {a : Nat} (h : S.K a = 11) (v : Int32) (b : Nat) : va_up (wkF cy S) a (.inr (13, [va_rf (S.fA a 0), va_rf (S.fA a 1), .int (S.fI a 2), va_rf (S.fA a 3), va_rf (S.fA a 4), va_rf (S.fA a 5), va_rf (S.fA a 6), va_rf (S.fA a 7), va_rf (S.fA a 8), .int v, .int (S.fI a 10), va_rf (S.fA a 11), va_rf (S.fA a 12), .int (S.fI a 13), va_rf (S.fA a 14), .int (S.fI a 15), va_rf (S.fA a 16), .int (S.fI a 17), .int (S.fI a 18)])) b = wkF cy (wuF S a 9 v) b := by
  by_cases hb : b = a
  · subst hb
    have h : S.2.1 b = 11 := h
    simp [wkF, va_up, h, wPS.L, wPS.K, wPS.fI, wPS.fJ, wPS.fA, wPS.len, wPS.rI, wPS.rJ, wPS.rA, wuF, wuG, wuA, wuRI, wuRJ, wuRA, wnO, wnI, wnJ, wnA]
  · simp [wkF, va_up, hb, wPS.L, wPS.K, wPS.fI, wPS.fJ, wPS.fA, wPS.len, wPS.rI, wPS.rJ, wPS.rA, wuF, wuG, wuA, wuRI, wuRJ, wuRA, wnO, wnI, wnJ, wnA]
abbrev gWitnessworks_changeCount (S : wPS) (a : Nat) : Int32 := S.fI a 10
abbrev wu_Witnessworks_changeCount (S : wPS) (a : Nat) (v : Int32) : wPS := wuF S a 10 v
theorem wSt_11_10 (cy : Nat → ClassId) (S : wPS) {a : Nat} (h : S.K a = 11) (v : Int32) (b : Nat) : va_up (wkF cy S) a (.inr (13, [va_rf (S.fA a 0), va_rf (S.fA a 1), .int (S.fI a 2), va_rf (S.fA a 3), va_rf (S.fA a 4), va_rf (S.fA a 5), va_rf (S.fA a 6), va_rf (S.fA a 7), va_rf (S.fA a 8), .int (S.fI a 9), .int v, va_rf (S.fA a 11), va_rf (S.fA a 12), .int (S.fI a 13), va_rf (S.fA a 14), .int (S.fI a 15), va_rf (S.fA a 16), .int (S.fI a 17), .int (S.fI a 18)])) b = wkF cy (wuF S a 10 v) b := by
  by_cases hb : b = a
  · subst hb
    have h : S.2.1 b = 11 := h
    simp [wkF, va_up, h, wPS.L, wPS.K, wPS.fI, wPS.fJ, wPS.fA, wPS.len, wPS.rI, wPS.rJ, wPS.rA, wuF, wuG, wuA, wuRI, wuRJ, wuRA, wnO, wnI, wnJ, wnA]
  · simp [wkF, va_up, hb, wPS.L, wPS.K, wPS.fI, wPS.fJ, wPS.fA, wPS.len, wPS.rI, wPS.rJ, wPS.rA, wuF, wuG, wuA, wuRI, wuRJ, wuRA, wnO, wnI, wnJ, wnA]
abbrev gWitnessworks_typed (S : wPS) (a : Nat) : Option Nat := S.fA a 11
abbrev wu_Witnessworks_typed (S : wPS) (a : Nat) (v : Option Nat) : wPS := wuA S a 11 v
theorem wSt_11_11 (cy : Nat → ClassId) (S : wPS) {a : Nat} (h : S.K a = 11) (v : Option Nat) (b : Nat) : va_up (wkF cy S) a (.inr (13, [va_rf (S.fA a 0), va_rf (S.fA a 1), .int (S.fI a 2), va_rf (S.fA a 3), va_rf (S.fA a 4), va_rf (S.fA a 5), va_rf (S.fA a 6), va_rf (S.fA a 7), va_rf (S.fA a 8), .int (S.fI a 9), .int (S.fI a 10), va_rf v, va_rf (S.fA a 12), .int (S.fI a 13), va_rf (S.fA a 14), .int (S.fI a 15), va_rf (S.fA a 16), .int (S.fI a 17), .int (S.fI a 18)])) b = wkF cy (wuA S a 11 v) b := by
  by_cases hb : b = a
  · subst hb
    have h : S.2.1 b = 11 := h
    simp [wkF, va_up, h, wPS.L, wPS.K, wPS.fI, wPS.fJ, wPS.fA, wPS.len, wPS.rI, wPS.rJ, wPS.rA, wuF, wuG, wuA, wuRI, wuRJ, wuRA, wnO, wnI, wnJ, wnA]
  · simp [wkF, va_up, hb, wPS.L, wPS.K, wPS.fI, wPS.fJ, wPS.fA, wPS.len, wPS.rI, wPS.rJ, wPS.rA, wuF, wuG, wuA, wuRI, wuRJ, wuRA, wnO, wnI, wnJ, wnA]
abbrev gWitnessworks_earned (S : wPS) (a : Nat) : Option Nat := S.fA a 12
abbrev wu_Witnessworks_earned (S : wPS) (a : Nat) (v : Option Nat) : wPS := wuA S a 12 v
theorem wSt_11_12 (cy : Nat → ClassId) (S : wPS) {a : Nat} (h : S.K a = 11) (v : Option Nat) (b : Nat) : va_up (wkF cy S) a (.inr (13, [va_rf (S.fA a 0), va_rf (S.fA a 1), .int (S.fI a 2), va_rf (S.fA a 3), va_rf (S.fA a 4), va_rf (S.fA a 5), va_rf (S.fA a 6), va_rf (S.fA a 7), va_rf (S.fA a 8), .int (S.fI a 9), .int (S.fI a 10), va_rf (S.fA a 11), va_rf v, .int (S.fI a 13), va_rf (S.fA a 14), .int (S.fI a 15), va_rf (S.fA a 16), .int (S.fI a 17), .int (S.fI a 18)])) b = wkF cy (wuA S a 12 v) b := by
  by_cases hb : b = a
  · subst hb
    have h : S.2.1 b = 11 := h
    simp [wkF, va_up, h, wPS.L, wPS.K, wPS.fI, wPS.fJ, wPS.fA, wPS.len, wPS.rI, wPS.rJ, wPS.rA, wuF, wuG, wuA, wuRI, wuRJ, wuRA, wnO, wnI, wnJ, wnA]
  · simp [wkF, va_up, hb, wPS.L, wPS.K, wPS.fI, wPS.fJ, wPS.fA, wPS.len, wPS.rI, wPS.rJ, wPS.rA, wuF, wuG, wuA, wuRI, wuRJ, wuRA, wnO, wnI, wnJ, wnA]
abbrev gWitnessworks_personCount (S : wPS) (a : Nat) : Int32 := S.fI a 13
abbrev wu_Witnessworks_personCount (S : wPS) (a : Nat) (v : Int32) : wPS := wuF S a 13 v
theorem wSt_11_13 (cy : Nat → ClassId) (S : wPS) {a : Nat} (h : S.K a = 11) (v : Int32) (b : Nat) : va_up (wkF cy S) a (.inr (13, [va_rf (S.fA a 0), va_rf (S.fA a 1), .int (S.fI a 2), va_rf (S.fA a 3), va_rf (S.fA a 4), va_rf (S.fA a 5), va_rf (S.fA a 6), va_rf (S.fA a 7), va_rf (S.fA a 8), .int (S.fI a 9), .int (S.fI a 10), va_rf (S.fA a 11), va_rf (S.fA a 12), .int v, va_rf (S.fA a 14), .int (S.fI a 15), va_rf (S.fA a 16), .int (S.fI a 17), .int (S.fI a 18)])) b = wkF cy (wuF S a 13 v) b := by
  by_cases hb : b = a
  · subst hb
    have h : S.2.1 b = 11 := h
    simp [wkF, va_up, h, wPS.L, wPS.K, wPS.fI, wPS.fJ, wPS.fA, wPS.len, wPS.rI, wPS.rJ, wPS.rA, wuF, wuG, wuA, wuRI, wuRJ, wuRA, wnO, wnI, wnJ, wnA]
  · simp [wkF, va_up, hb, wPS.L, wPS.K, wPS.fI, wPS.fJ, wPS.fA, wPS.len, wPS.rI, wPS.rJ, wPS.rA, wuF, wuG, wuA, wuRI, wuRJ, wuRA, wnO, wnI, wnJ, wnA]
abbrev gWitnessworks_claims (S : wPS) (a : Nat) : Option Nat := S.fA a 14
abbrev wu_Witnessworks_claims (S : wPS) (a : Nat) (v : Option Nat) : wPS := wuA S a 14 v
theorem wSt_11_14 (cy : Nat → ClassId) (S : wPS) {a : Nat} (h : S.K a = 11) (v : Option Nat) (b : Nat) : va_up (wkF cy S) a (.inr (13, [va_rf (S.fA a 0), va_rf (S.fA a 1), .int (S.fI a 2), va_rf (S.fA a 3), va_rf (S.fA a 4), va_rf (S.fA a 5), va_rf (S.fA a 6), va_rf (S.fA a 7), va_rf (S.fA a 8), .int (S.fI a 9), .int (S.fI a 10), va_rf (S.fA a 11), va_rf (S.fA a 12), .int (S.fI a 13), va_rf v, .int (S.fI a 15), va_rf (S.fA a 16), .int (S.fI a 17), .int (S.fI a 18)])) b = wkF cy (wuA S a 14 v) b := by
  by_cases hb : b = a
  · subst hb
    have h : S.2.1 b = 11 := h
    simp [wkF, va_up, h, wPS.L, wPS.K, wPS.fI, wPS.fJ, wPS.fA, wPS.len, wPS.rI, wPS.rJ, wPS.rA, wuF, wuG, wuA, wuRI, wuRJ, wuRA, wnO, wnI, wnJ, wnA]
  · simp [wkF, va_up, hb, wPS.L, wPS.K, wPS.fI, wPS.fJ, wPS.fA, wPS.len, wPS.rI, wPS.rJ, wPS.rA, wuF, wuG, wuA, wuRI, wuRJ, wuRA, wnO, wnI, wnJ, wnA]
abbrev gWitnessworks_claimCount (S : wPS) (a : Nat) : Int32 := S.fI a 15
abbrev wu_Witnessworks_claimCount (S : wPS) (a : Nat) (v : Int32) : wPS := wuF S a 15 v
theorem wSt_11_15 (cy : Nat → ClassId) (S : wPS) {a : Nat} (h : S.K a = 11) (v : Int32) (b : Nat) : va_up (wkF cy S) a (.inr (13, [va_rf (S.fA a 0), va_rf (S.fA a 1), .int (S.fI a 2), va_rf (S.fA a 3), va_rf (S.fA a 4), va_rf (S.fA a 5), va_rf (S.fA a 6), va_rf (S.fA a 7), va_rf (S.fA a 8), .int (S.fI a 9), .int (S.fI a 10), va_rf (S.fA a 11), va_rf (S.fA a 12), .int (S.fI a 13), va_rf (S.fA a 14), .int v, va_rf (S.fA a 16), .int (S.fI a 17), .int (S.fI a 18)])) b = wkF cy (wuF S a 15 v) b := by
  by_cases hb : b = a
  · subst hb
    have h : S.2.1 b = 11 := h
    simp [wkF, va_up, h, wPS.L, wPS.K, wPS.fI, wPS.fJ, wPS.fA, wPS.len, wPS.rI, wPS.rJ, wPS.rA, wuF, wuG, wuA, wuRI, wuRJ, wuRA, wnO, wnI, wnJ, wnA]
  · simp [wkF, va_up, hb, wPS.L, wPS.K, wPS.fI, wPS.fJ, wPS.fA, wPS.len, wPS.rI, wPS.rJ, wPS.rA, wuF, wuG, wuA, wuRI, wuRJ, wuRA, wnO, wnI, wnJ, wnA]
abbrev gWitnessworks_errors (S : wPS) (a : Nat) : Option Nat := S.fA a 16
abbrev wu_Witnessworks_errors (S : wPS) (a : Nat) (v : Option Nat) : wPS := wuA S a 16 v
theorem wSt_11_16 (cy : Nat → ClassId) (S : wPS) {a : Nat} (h : S.K a = 11) (v : Option Nat) (b : Nat) : va_up (wkF cy S) a (.inr (13, [va_rf (S.fA a 0), va_rf (S.fA a 1), .int (S.fI a 2), va_rf (S.fA a 3), va_rf (S.fA a 4), va_rf (S.fA a 5), va_rf (S.fA a 6), va_rf (S.fA a 7), va_rf (S.fA a 8), .int (S.fI a 9), .int (S.fI a 10), va_rf (S.fA a 11), va_rf (S.fA a 12), .int (S.fI a 13), va_rf (S.fA a 14), .int (S.fI a 15), va_rf v, .int (S.fI a 17), .int (S.fI a 18)])) b = wkF cy (wuA S a 16 v) b := by
  by_cases hb : b = a
  · subst hb
    have h : S.2.1 b = 11 := h
    simp [wkF, va_up, h, wPS.L, wPS.K, wPS.fI, wPS.fJ, wPS.fA, wPS.len, wPS.rI, wPS.rJ, wPS.rA, wuF, wuG, wuA, wuRI, wuRJ, wuRA, wnO, wnI, wnJ, wnA]
  · simp [wkF, va_up, hb, wPS.L, wPS.K, wPS.fI, wPS.fJ, wPS.fA, wPS.len, wPS.rI, wPS.rJ, wPS.rA, wuF, wuG, wuA, wuRI, wuRJ, wuRA, wnO, wnI, wnJ, wnA]
abbrev gWitnessworks_errorCount (S : wPS) (a : Nat) : Int32 := S.fI a 17
abbrev wu_Witnessworks_errorCount (S : wPS) (a : Nat) (v : Int32) : wPS := wuF S a 17 v
theorem wSt_11_17 (cy : Nat → ClassId) (S : wPS) {a : Nat} (h : S.K a = 11) (v : Int32) (b : Nat) : va_up (wkF cy S) a (.inr (13, [va_rf (S.fA a 0), va_rf (S.fA a 1), .int (S.fI a 2), va_rf (S.fA a 3), va_rf (S.fA a 4), va_rf (S.fA a 5), va_rf (S.fA a 6), va_rf (S.fA a 7), va_rf (S.fA a 8), .int (S.fI a 9), .int (S.fI a 10), va_rf (S.fA a 11), va_rf (S.fA a 12), .int (S.fI a 13), va_rf (S.fA a 14), .int (S.fI a 15), va_rf (S.fA a 16), .int v, .int (S.fI a 18)])) b = wkF cy (wuF S a 17 v) b := by
  by_cases hb : b = a
  · subst hb
    have h : S.2.1 b = 11 := h
    simp [wkF, va_up, h, wPS.L, wPS.K, wPS.fI, wPS.fJ, wPS.fA, wPS.len, wPS.rI, wPS.rJ, wPS.rA, wuF, wuG, wuA, wuRI, wuRJ, wuRA, wnO, wnI, wnJ, wnA]
  · simp [wkF, va_up, hb, wPS.L, wPS.K, wPS.fI, wPS.fJ, wPS.fA, wPS.len, wPS.rI, wPS.rJ, wPS.rA, wuF, wuG, wuA, wuRI, wuRJ, wuRA, wnO, wnI, wnJ, wnA]
abbrev gWitnessworks_settlings (S : wPS) (a : Nat) : Int32 := S.fI a 18
abbrev wu_Witnessworks_settlings (S : wPS) (a : Nat) (v : Int32) : wPS := wuF S a 18 v
theorem wSt_11_18 (cy : Nat → ClassId) (S : wPS) {a : Nat} (h : S.K a = 11) (v : Int32) (b : Nat) : va_up (wkF cy S) a (.inr (13, [va_rf (S.fA a 0), va_rf (S.fA a 1), .int (S.fI a 2), va_rf (S.fA a 3), va_rf (S.fA a 4), va_rf (S.fA a 5), va_rf (S.fA a 6), va_rf (S.fA a 7), va_rf (S.fA a 8), .int (S.fI a 9), .int (S.fI a 10), va_rf (S.fA a 11), va_rf (S.fA a 12), .int (S.fI a 13), va_rf (S.fA a 14), .int (S.fI a 15), va_rf (S.fA a 16), .int (S.fI a 17), .int v])) b = wkF cy (wuF S a 18 v) b := by
  by_cases hb : b = a
  · subst hb
    have h : S.2.1 b = 11 := h
    simp [wkF, va_up, h, wPS.L, wPS.K, wPS.fI, wPS.fJ, wPS.fA, wPS.len, wPS.rI, wPS.rJ, wPS.rA, wuF, wuG, wuA, wuRI, wuRJ, wuRA, wnO, wnI, wnJ, wnA]
  · simp [wkF, va_up, hb, wPS.L, wPS.K, wPS.fI, wPS.fJ, wPS.fA, wPS.len, wPS.rI, wPS.rJ, wPS.rA, wuF, wuG, wuA, wuRI, wuRJ, wuRA, wnO, wnI, wnJ, wnA]
theorem wNw_11 (cy : Nat → ClassId) (S : wPS) (a b : Nat) : va_up (wkF cy S) a (.inr (13, [.null, .null, .int 0, .null, .null, .null, .null, .null, .null, .int 0, .int 0, .null, .null, .int 0, .null, .int 0, .null, .int 0, .int 0])) b = wkF cy (wnO S a 11) b := by
  by_cases hb : b = a
  · subst hb
    simp [wkF, va_up, va_rf, wPS.L, wPS.K, wPS.fI, wPS.fJ, wPS.fA, wPS.len, wPS.rI, wPS.rJ, wPS.rA, wuF, wuG, wuA, wuRI, wuRJ, wuRA, wnO, wnI, wnJ, wnA]
  · simp [wkF, va_up, hb, wPS.L, wPS.K, wPS.fI, wPS.fJ, wPS.fA, wPS.len, wPS.rI, wPS.rJ, wPS.rA, wuF, wuG, wuA, wuRI, wuRJ, wuRA, wnO, wnI, wnJ, wnA]
theorem wSt_12 (cy : Nat → ClassId) (S : wPS) {a : Nat} (h : S.K a = 12) (f : Nat → Int32) (b : Nat) : va_up (wkF cy S) a (.inl (cy 0, S.len a, .inl f)) b = wkF cy (wuRI S a f) b := by
  by_cases hb : b = a
  · subst hb
    have h : S.2.1 b = 12 := h
    simp [wkF, va_up, h, wPS.L, wPS.K, wPS.fI, wPS.fJ, wPS.fA, wPS.len, wPS.rI, wPS.rJ, wPS.rA, wuF, wuG, wuA, wuRI, wuRJ, wuRA, wnO, wnI, wnJ, wnA]
  · simp [wkF, va_up, hb, wPS.L, wPS.K, wPS.fI, wPS.fJ, wPS.fA, wPS.len, wPS.rI, wPS.rJ, wPS.rA, wuF, wuG, wuA, wuRI, wuRJ, wuRA, wnO, wnI, wnJ, wnA]
theorem wNw_12 (cy : Nat → ClassId) (S : wPS) (a z : Nat) (f : Nat → Int32) (b : Nat) : va_up (wkF cy S) a (.inl (cy 0, z, .inl f)) b = wkF cy (wnI S a 12 z f) b := by
  by_cases hb : b = a
  · subst hb
    simp [wkF, va_up, wPS.L, wPS.K, wPS.fI, wPS.fJ, wPS.fA, wPS.len, wPS.rI, wPS.rJ, wPS.rA, wuF, wuG, wuA, wuRI, wuRJ, wuRA, wnO, wnI, wnJ, wnA]
  · simp [wkF, va_up, hb, wPS.L, wPS.K, wPS.fI, wPS.fJ, wPS.fA, wPS.len, wPS.rI, wPS.rJ, wPS.rA, wuF, wuG, wuA, wuRI, wuRJ, wuRA, wnO, wnI, wnJ, wnA]
theorem wSt_13 (cy : Nat → ClassId) (S : wPS) {a : Nat} (h : S.K a = 13) (f : Nat → Int32) (b : Nat) : va_up (wkF cy S) a (.inl (cy 1, S.len a, .inl f)) b = wkF cy (wuRI S a f) b := by
  by_cases hb : b = a
  · subst hb
    have h : S.2.1 b = 13 := h
    simp [wkF, va_up, h, wPS.L, wPS.K, wPS.fI, wPS.fJ, wPS.fA, wPS.len, wPS.rI, wPS.rJ, wPS.rA, wuF, wuG, wuA, wuRI, wuRJ, wuRA, wnO, wnI, wnJ, wnA]
  · simp [wkF, va_up, hb, wPS.L, wPS.K, wPS.fI, wPS.fJ, wPS.fA, wPS.len, wPS.rI, wPS.rJ, wPS.rA, wuF, wuG, wuA, wuRI, wuRJ, wuRA, wnO, wnI, wnJ, wnA]
theorem wNw_13 (cy : Nat → ClassId) (S : wPS) (a z : Nat) (f : Nat → Int32) (b : Nat) : va_up (wkF cy S) a (.inl (cy 1, z, .inl f)) b = wkF cy (wnI S a 13 z f) b := by
  by_cases hb : b = a
  · subst hb
    simp [wkF, va_up, wPS.L, wPS.K, wPS.fI, wPS.fJ, wPS.fA, wPS.len, wPS.rI, wPS.rJ, wPS.rA, wuF, wuG, wuA, wuRI, wuRJ, wuRA, wnO, wnI, wnJ, wnA]
  · simp [wkF, va_up, hb, wPS.L, wPS.K, wPS.fI, wPS.fJ, wPS.fA, wPS.len, wPS.rI, wPS.rJ, wPS.rA, wuF, wuG, wuA, wuRI, wuRJ, wuRA, wnO, wnI, wnJ, wnA]
theorem wSt_14 (cy : Nat → ClassId) (S : wPS) {a : Nat} (h : S.K a = 14) (f : Nat → Int64) (b : Nat) : va_up (wkF cy S) a (.inl (cy 2, S.len a, .inr (.inl f))) b = wkF cy (wuRJ S a f) b := by
  by_cases hb : b = a
  · subst hb
    have h : S.2.1 b = 14 := h
    simp [wkF, va_up, h, wPS.L, wPS.K, wPS.fI, wPS.fJ, wPS.fA, wPS.len, wPS.rI, wPS.rJ, wPS.rA, wuF, wuG, wuA, wuRI, wuRJ, wuRA, wnO, wnI, wnJ, wnA]
  · simp [wkF, va_up, hb, wPS.L, wPS.K, wPS.fI, wPS.fJ, wPS.fA, wPS.len, wPS.rI, wPS.rJ, wPS.rA, wuF, wuG, wuA, wuRI, wuRJ, wuRA, wnO, wnI, wnJ, wnA]
theorem wNw_14 (cy : Nat → ClassId) (S : wPS) (a z : Nat) (f : Nat → Int64) (b : Nat) : va_up (wkF cy S) a (.inl (cy 2, z, .inr (.inl f))) b = wkF cy (wnJ S a z f) b := by
  by_cases hb : b = a
  · subst hb
    simp [wkF, va_up, wPS.L, wPS.K, wPS.fI, wPS.fJ, wPS.fA, wPS.len, wPS.rI, wPS.rJ, wPS.rA, wuF, wuG, wuA, wuRI, wuRJ, wuRA, wnO, wnI, wnJ, wnA]
  · simp [wkF, va_up, hb, wPS.L, wPS.K, wPS.fI, wPS.fJ, wPS.fA, wPS.len, wPS.rI, wPS.rJ, wPS.rA, wuF, wuG, wuA, wuRI, wuRJ, wuRA, wnO, wnI, wnJ, wnA]
theorem wSt_15 (cy : Nat → ClassId) (S : wPS) {a : Nat} (h : S.K a = 15) (f : Nat → Option Nat) (b : Nat) : va_up (wkF cy S) a (.inl (cy 3, S.len a, .inr (.inr (.inr (.inr f))))) b = wkF cy (wuRA S a f) b := by
  by_cases hb : b = a
  · subst hb
    have h : S.2.1 b = 15 := h
    simp [wkF, va_up, h, wPS.L, wPS.K, wPS.fI, wPS.fJ, wPS.fA, wPS.len, wPS.rI, wPS.rJ, wPS.rA, wuF, wuG, wuA, wuRI, wuRJ, wuRA, wnO, wnI, wnJ, wnA]
  · simp [wkF, va_up, hb, wPS.L, wPS.K, wPS.fI, wPS.fJ, wPS.fA, wPS.len, wPS.rI, wPS.rJ, wPS.rA, wuF, wuG, wuA, wuRI, wuRJ, wuRA, wnO, wnI, wnJ, wnA]
theorem wNw_15 (cy : Nat → ClassId) (S : wPS) (a z : Nat) (f : Nat → Option Nat) (b : Nat) : va_up (wkF cy S) a (.inl (cy 3, z, .inr (.inr (.inr (.inr f))))) b = wkF cy (wnA S a 15 z f) b := by
  by_cases hb : b = a
  · subst hb
    simp [wkF, va_up, wPS.L, wPS.K, wPS.fI, wPS.fJ, wPS.fA, wPS.len, wPS.rI, wPS.rJ, wPS.rA, wuF, wuG, wuA, wuRI, wuRJ, wuRA, wnO, wnI, wnJ, wnA]
  · simp [wkF, va_up, hb, wPS.L, wPS.K, wPS.fI, wPS.fJ, wPS.fA, wPS.len, wPS.rI, wPS.rJ, wPS.rA, wuF, wuG, wuA, wuRI, wuRJ, wuRA, wnO, wnI, wnJ, wnA]
theorem wSt_16 (cy : Nat → ClassId) (S : wPS) {a : Nat} (h : S.K a = 16) (f : Nat → Option Nat) (b : Nat) : va_up (wkF cy S) a (.inl (cy 4, S.len a, .inr (.inr (.inr (.inr f))))) b = wkF cy (wuRA S a f) b := by
  by_cases hb : b = a
  · subst hb
    have h : S.2.1 b = 16 := h
    simp [wkF, va_up, h, wPS.L, wPS.K, wPS.fI, wPS.fJ, wPS.fA, wPS.len, wPS.rI, wPS.rJ, wPS.rA, wuF, wuG, wuA, wuRI, wuRJ, wuRA, wnO, wnI, wnJ, wnA]
  · simp [wkF, va_up, hb, wPS.L, wPS.K, wPS.fI, wPS.fJ, wPS.fA, wPS.len, wPS.rI, wPS.rJ, wPS.rA, wuF, wuG, wuA, wuRI, wuRJ, wuRA, wnO, wnI, wnJ, wnA]
theorem wNw_16 (cy : Nat → ClassId) (S : wPS) (a z : Nat) (f : Nat → Option Nat) (b : Nat) : va_up (wkF cy S) a (.inl (cy 4, z, .inr (.inr (.inr (.inr f))))) b = wkF cy (wnA S a 16 z f) b := by
  by_cases hb : b = a
  · subst hb
    simp [wkF, va_up, wPS.L, wPS.K, wPS.fI, wPS.fJ, wPS.fA, wPS.len, wPS.rI, wPS.rJ, wPS.rA, wuF, wuG, wuA, wuRI, wuRJ, wuRA, wnO, wnI, wnJ, wnA]
  · simp [wkF, va_up, hb, wPS.L, wPS.K, wPS.fI, wPS.fJ, wPS.fA, wPS.len, wPS.rI, wPS.rJ, wPS.rA, wuF, wuG, wuA, wuRI, wuRJ, wuRA, wnO, wnI, wnJ, wnA]
theorem wSt_17 (cy : Nat → ClassId) (S : wPS) {a : Nat} (h : S.K a = 17) (f : Nat → Option Nat) (b : Nat) : va_up (wkF cy S) a (.inl (cy 5, S.len a, .inr (.inr (.inr (.inr f))))) b = wkF cy (wuRA S a f) b := by
  by_cases hb : b = a
  · subst hb
    have h : S.2.1 b = 17 := h
    simp [wkF, va_up, h, wPS.L, wPS.K, wPS.fI, wPS.fJ, wPS.fA, wPS.len, wPS.rI, wPS.rJ, wPS.rA, wuF, wuG, wuA, wuRI, wuRJ, wuRA, wnO, wnI, wnJ, wnA]
  · simp [wkF, va_up, hb, wPS.L, wPS.K, wPS.fI, wPS.fJ, wPS.fA, wPS.len, wPS.rI, wPS.rJ, wPS.rA, wuF, wuG, wuA, wuRI, wuRJ, wuRA, wnO, wnI, wnJ, wnA]
theorem wNw_17 (cy : Nat → ClassId) (S : wPS) (a z : Nat) (f : Nat → Option Nat) (b : Nat) : va_up (wkF cy S) a (.inl (cy 5, z, .inr (.inr (.inr (.inr f))))) b = wkF cy (wnA S a 17 z f) b := by
  by_cases hb : b = a
  · subst hb
    simp [wkF, va_up, wPS.L, wPS.K, wPS.fI, wPS.fJ, wPS.fA, wPS.len, wPS.rI, wPS.rJ, wPS.rA, wuF, wuG, wuA, wuRI, wuRJ, wuRA, wnO, wnI, wnJ, wnA]
  · simp [wkF, va_up, hb, wPS.L, wPS.K, wPS.fI, wPS.fJ, wPS.fA, wPS.len, wPS.rI, wPS.rJ, wPS.rA, wuF, wuG, wuA, wuRI, wuRJ, wuRA, wnO, wnI, wnJ, wnA]
theorem wSt_18 (cy : Nat → ClassId) (S : wPS) {a : Nat} (h : S.K a = 18) (f : Nat → Option Nat) (b : Nat) : va_up (wkF cy S) a (.inl (cy 6, S.len a, .inr (.inr (.inr (.inr f))))) b = wkF cy (wuRA S a f) b := by
  by_cases hb : b = a
  · subst hb
    have h : S.2.1 b = 18 := h
    simp [wkF, va_up, h, wPS.L, wPS.K, wPS.fI, wPS.fJ, wPS.fA, wPS.len, wPS.rI, wPS.rJ, wPS.rA, wuF, wuG, wuA, wuRI, wuRJ, wuRA, wnO, wnI, wnJ, wnA]
  · simp [wkF, va_up, hb, wPS.L, wPS.K, wPS.fI, wPS.fJ, wPS.fA, wPS.len, wPS.rI, wPS.rJ, wPS.rA, wuF, wuG, wuA, wuRI, wuRJ, wuRA, wnO, wnI, wnJ, wnA]
theorem wNw_18 (cy : Nat → ClassId) (S : wPS) (a z : Nat) (f : Nat → Option Nat) (b : Nat) : va_up (wkF cy S) a (.inl (cy 6, z, .inr (.inr (.inr (.inr f))))) b = wkF cy (wnA S a 18 z f) b := by
  by_cases hb : b = a
  · subst hb
    simp [wkF, va_up, wPS.L, wPS.K, wPS.fI, wPS.fJ, wPS.fA, wPS.len, wPS.rI, wPS.rJ, wPS.rA, wuF, wuG, wuA, wuRI, wuRJ, wuRA, wnO, wnI, wnJ, wnA]
  · simp [wkF, va_up, hb, wPS.L, wPS.K, wPS.fI, wPS.fJ, wPS.fA, wPS.len, wPS.rI, wPS.rJ, wPS.rA, wuF, wuG, wuA, wuRI, wuRJ, wuRA, wnO, wnI, wnJ, wnA]
end
