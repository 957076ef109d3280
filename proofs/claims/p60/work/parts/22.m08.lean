/-! LIFTED BY PROGRAM (lift.py): J11_lowSurrogate_5068e, J6_bitCount_0f7a4, J9_floorDiv_7cf53, J9_floorDiv_f86c9, J9_floorMod_7cf53, J9_floorMod_f86c9, J0_coder_7d493, J0_isLatin1_aae02, J1_canEncode_9a6ad, J1_indexOfChar_4cfef, J7_fill_d0a16, J7_fill_53178, J3_checkIndex_8e157, X0_begin, X1_isBroken, X1_goBack, X1_codeOf, X1_isLeaf, X2_countWalksDue. -/
section
def mJ11_lowSurrogate_5068e (F : Nat) (l0I : Int32) : Option Int32 :=
  (if ¬ (((((Int32.toUInt32 ((l0I &&& (1023 : Int32)) + (56320 : Int32))) % 65536).toInt32 : Int32).toUInt32 % 65536).toInt32 = ((Int32.toUInt32 ((l0I &&& (1023 : Int32)) + (56320 : Int32))) % 65536).toInt32) then none else some (((Int32.toUInt32 ((l0I &&& (1023 : Int32)) + (56320 : Int32))) % 65536).toInt32))
set_option maxHeartbeats 4000000 in
set_option maxRecDepth 100000 in
theorem LJ11_lowSurrogate_5068e {F : Nat} {S : wPS} {v : Int32} {Φ : (Int32 → wPS → Prop)} {l0Ix l0I : Int32} (h : mJ11_lowSurrogate_5068e F l0I  = some v) (el0I : l0Ix = l0I) (k : (Φ v S)) : rJ11_lowSurrogate_5068e F l0Ix S Φ := by
  have el0I := el0I.symm
  subst el0I
  unfold mJ11_lowSurrogate_5068e at h
  unfold rJ11_lowSurrogate_5068e
  refine mGp h Iff.rfl (fun c1 h => ?_)
  cases h
  exact k
def mJ6_bitCount_0f7a4 (F : Nat) (l0I : Int32) : Option Int32 :=
  (mLt (l0I - (((l0I).toUInt32 >>> (((1 : Int32)).toUInt32 &&& Int32.toUInt32 31)).toInt32 &&& (1431655765 : Int32))) fun x1 => (mLt ((x1 &&& (858993459 : Int32)) + (((x1).toUInt32 >>> (((2 : Int32)).toUInt32 &&& Int32.toUInt32 31)).toInt32 &&& (858993459 : Int32))) fun x2 => (mLt ((x2 + ((x2).toUInt32 >>> (((4 : Int32)).toUInt32 &&& Int32.toUInt32 31)).toInt32) &&& (252645135 : Int32)) fun x3 => (mLt (x3 + ((x3).toUInt32 >>> (((8 : Int32)).toUInt32 &&& Int32.toUInt32 31)).toInt32) fun x4 => (mLt (x4 + ((x4).toUInt32 >>> (((16 : Int32)).toUInt32 &&& Int32.toUInt32 31)).toInt32) fun x5 => some ((x5 &&& (63 : Int32))))))))
set_option maxHeartbeats 4000000 in
set_option maxRecDepth 100000 in
theorem LJ6_bitCount_0f7a4 {F : Nat} {S : wPS} {v : Int32} {Φ : (Int32 → wPS → Prop)} {l0Ix l0I : Int32} (h : mJ6_bitCount_0f7a4 F l0I  = some v) (el0I : l0Ix = l0I) (k : (Φ v S)) : rJ6_bitCount_0f7a4 F l0Ix S Φ := by
  have el0I := el0I.symm
  subst el0I
  unfold mJ6_bitCount_0f7a4 at h
  unfold rJ6_bitCount_0f7a4
  refine mLet h rfl (fun x1 ex1 h => ?_)
  refine mLet h rfl (fun x2 ex2 h => ?_)
  refine mLet h rfl (fun x3 ex3 h => ?_)
  refine mLet h rfl (fun x4 ex4 h => ?_)
  refine mLet h rfl (fun x5 ex5 h => ?_)
  cases h
  exact k
def mJ9_floorDiv_7cf53 (F : Nat) (l0I : Int32) (l1I : Int32) : Option Int32 :=
  (if l1I = 0 then none else (mLt (l0I / l1I) fun x2 => (if 0 ≤ (l0I ^^^ l1I) then some (x2) else (if (x2 * l1I) = l0I then some (x2) else some ((x2 - (1 : Int32)))))))
set_option maxHeartbeats 4000000 in
set_option maxRecDepth 100000 in
theorem LJ9_floorDiv_7cf53 {F : Nat} {S : wPS} {v : Int32} {Φ : (Int32 → wPS → Prop)} {l0Ix l0I : Int32} {l1Ix l1I : Int32} (h : mJ9_floorDiv_7cf53 F l0I l1I  = some v) (el0I : l0Ix = l0I) (el1I : l1Ix = l1I) (k : (Φ v S)) : rJ9_floorDiv_7cf53 F l0Ix l1Ix S Φ := by
  have el0I := el0I.symm
  subst el0I
  have el1I := el1I.symm
  subst el1I
  unfold mJ9_floorDiv_7cf53 at h
  unfold rJ9_floorDiv_7cf53
  refine mGd h Iff.rfl (fun c1 h => ?_)
  refine mLet h rfl (fun x2 ex2 h => ?_)
  refine mIf h Iff.rfl (fun c2 h => ?_) (fun c2 h => ?_)
  · cases h
    exact k
  · refine mIf h Iff.rfl (fun c3 h => ?_) (fun c3 h => ?_)
    · cases h
      exact k
    · cases h
      exact k
def mJ9_floorDiv_f86c9 (F : Nat) (l0J : Int64) (l2J : Int64) : Option Int64 :=
  (if l2J = 0 then none else (mLt (l0J / l2J) fun x2 => (if 0 ≤ (lg_cmp (l0J ^^^ l2J) (0 : Int64)) then some (x2) else (if (lg_cmp (x2 * l2J) l0J) = 0 then some (x2) else some ((x2 - (1 : Int64)))))))
set_option maxHeartbeats 4000000 in
set_option maxRecDepth 100000 in
theorem LJ9_floorDiv_f86c9 {F : Nat} {S : wPS} {v : Int64} {Φ : (Int64 → wPS → Prop)} {l0Jx l0J : Int64} {l2Jx l2J : Int64} (h : mJ9_floorDiv_f86c9 F l0J l2J  = some v) (el0J : l0Jx = l0J) (el2J : l2Jx = l2J) (k : (Φ v S)) : rJ9_floorDiv_f86c9 F l0Jx l2Jx S Φ := by
  have el0J := el0J.symm
  subst el0J
  have el2J := el2J.symm
  subst el2J
  unfold mJ9_floorDiv_f86c9 at h
  unfold rJ9_floorDiv_f86c9
  refine mGd h Iff.rfl (fun c1 h => ?_)
  refine mLet h rfl (fun x2 ex2 h => ?_)
  refine mIf h Iff.rfl (fun c2 h => ?_) (fun c2 h => ?_)
  · cases h
    exact k
  · refine mIf h Iff.rfl (fun c3 h => ?_) (fun c3 h => ?_)
    · cases h
      exact k
    · cases h
      exact k
def mJ9_floorMod_7cf53 (F : Nat) (l0I : Int32) (l1I : Int32) : Option Int32 :=
  (if l1I = 0 then none else (mLt (l0I - l0I / l1I * l1I) fun x2 => (if 0 ≤ (l0I ^^^ l1I) then some (x2) else (if x2 = 0 then some (x2) else some ((x2 + l1I))))))
set_option maxHeartbeats 4000000 in
set_option maxRecDepth 100000 in
theorem LJ9_floorMod_7cf53 {F : Nat} {S : wPS} {v : Int32} {Φ : (Int32 → wPS → Prop)} {l0Ix l0I : Int32} {l1Ix l1I : Int32} (h : mJ9_floorMod_7cf53 F l0I l1I  = some v) (el0I : l0Ix = l0I) (el1I : l1Ix = l1I) (k : (Φ v S)) : rJ9_floorMod_7cf53 F l0Ix l1Ix S Φ := by
  have el0I := el0I.symm
  subst el0I
  have el1I := el1I.symm
  subst el1I
  unfold mJ9_floorMod_7cf53 at h
  unfold rJ9_floorMod_7cf53
  refine mGd h Iff.rfl (fun c1 h => ?_)
  refine mLet h rfl (fun x2 ex2 h => ?_)
  refine mIf h Iff.rfl (fun c2 h => ?_) (fun c2 h => ?_)
  · cases h
    exact k
  · refine mIf h Iff.rfl (fun c3 h => ?_) (fun c3 h => ?_)
    · cases h
      exact k
    · cases h
      exact k
def mJ9_floorMod_f86c9 (F : Nat) (l0J : Int64) (l2J : Int64) : Option Int64 :=
  (if l2J = 0 then none else (mLt (l0J - l0J / l2J * l2J) fun x2 => (if 0 ≤ (lg_cmp (l0J ^^^ l2J) (0 : Int64)) then some (x2) else (if (lg_cmp x2 (0 : Int64)) = 0 then some (x2) else some ((x2 + l2J))))))
set_option maxHeartbeats 4000000 in
set_option maxRecDepth 100000 in
theorem LJ9_floorMod_f86c9 {F : Nat} {S : wPS} {v : Int64} {Φ : (Int64 → wPS → Prop)} {l0Jx l0J : Int64} {l2Jx l2J : Int64} (h : mJ9_floorMod_f86c9 F l0J l2J  = some v) (el0J : l0Jx = l0J) (el2J : l2Jx = l2J) (k : (Φ v S)) : rJ9_floorMod_f86c9 F l0Jx l2Jx S Φ := by
  have el0J := el0J.symm
  subst el0J
  have el2J := el2J.symm
  subst el2J
  unfold mJ9_floorMod_f86c9 at h
  unfold rJ9_floorMod_f86c9
  refine mGd h Iff.rfl (fun c1 h => ?_)
  refine mLet h rfl (fun x2 ex2 h => ?_)
  refine mIf h Iff.rfl (fun c2 h => ?_) (fun c2 h => ?_)
  · cases h
    exact k
  · refine mIf h Iff.rfl (fun c3 h => ?_) (fun c3 h => ?_)
    · cases h
      exact k
    · cases h
      exact k
def mJ0_coder_7d493 (F : Nat) : Option Int32 :=
  some ((0 : Int32))
set_option maxHeartbeats 4000000 in
set_option maxRecDepth 100000 in
theorem LJ0_coder_7d493 {F : Nat} {S : wPS} {v : Int32} {Φ : (Int32 → wPS → Prop)} (h : mJ0_coder_7d493 F  = some v) (k : (Φ v S)) : rJ0_coder_7d493 F S Φ := by
  unfold mJ0_coder_7d493 at h
  unfold rJ0_coder_7d493
  cases h
  exact k
def mJ0_isLatin1_aae02 (F : Nat) : Option Int32 :=
  some ((1 : Int32))
set_option maxHeartbeats 4000000 in
set_option maxRecDepth 100000 in
theorem LJ0_isLatin1_aae02 {F : Nat} {S : wPS} {v : Int32} {Φ : (Int32 → wPS → Prop)} (h : mJ0_isLatin1_aae02 F  = some v) (k : (Φ v S)) : rJ0_isLatin1_aae02 F S Φ := by
  unfold mJ0_isLatin1_aae02 at h
  unfold rJ0_isLatin1_aae02
  cases h
  exact k
def mJ1_canEncode_9a6ad (F : Nat) (l0I : Int32) : Option Int32 :=
  (if l0I < 0 then some ((0 : Int32)) else (if (255 : Int32) < l0I then some ((0 : Int32)) else some ((1 : Int32))))
set_option maxHeartbeats 4000000 in
set_option maxRecDepth 100000 in
theorem LJ1_canEncode_9a6ad {F : Nat} {S : wPS} {v : Int32} {Φ : (Int32 → wPS → Prop)} {l0Ix l0I : Int32} (h : mJ1_canEncode_9a6ad F l0I  = some v) (el0I : l0Ix = l0I) (k : (Φ v S)) : rJ1_canEncode_9a6ad F l0Ix S Φ := by
  have el0I := el0I.symm
  subst el0I
  unfold mJ1_canEncode_9a6ad at h
  unfold rJ1_canEncode_9a6ad
  refine mIf h Iff.rfl (fun c1 h => ?_) (fun c1 h => ?_)
  · cases h
    exact k
  · refine mIf h Iff.rfl (fun c2 h => ?_) (fun c2 h => ?_)
    · cases h
      exact k
    · cases h
      exact k
def mJ1_indexOfChar_4cfef_b0 (F : Nat) (rec : Nat → Int32 → Int32 → Int32 → Option Int32) (l3I : Int32) (l4I : Int32) (l5I : Int32) : Option Int32 :=
  (if l3I ≤ l5I then some ((-1 : Int32)) else (if l5I < 0 ∨ 12 ≤ (l5I).toNatClampNeg then none else (if (wkKd (l5I).toNatClampNeg) = l4I then some (l5I) else (mLt (l5I + (1 : Int32)) fun x4 => (rec 0 (l3I) (l4I) (x4))))))
def mJ1_indexOfChar_4cfef_go (F : Nat) : Nat → Nat → Int32 → Int32 → Int32 → Option Int32
  | 0, _, _, _, _ => none
  | k' + 1, lab, l3I, l4I, l5I => if lab = 0 then mJ1_indexOfChar_4cfef_b0 F (mJ1_indexOfChar_4cfef_go F k') l3I l4I l5I  else none
def mJ1_indexOfChar_4cfef_s (F : Nat) (rec : Nat → Int32 → Int32 → Int32 → Option Int32) (l1I : Int32) (l2I : Int32) (l3I : Int32) : Option Int32 :=
  (mLt ((l1I : Int32).toInt8.toInt32) fun x5 => (rec 0 (l3I) (x5) (l2I)))
def mJ1_indexOfChar_4cfef (F : Nat) (l1I : Int32) (l2I : Int32) (l3I : Int32) : Option Int32 := mJ1_indexOfChar_4cfef_s F (mJ1_indexOfChar_4cfef_go F F) l1I l2I l3I 
set_option maxHeartbeats 4000000 in
set_option maxRecDepth 100000 in
theorem LJ1_indexOfChar_4cfef_go {F : Nat} {v : Int32} {Φ : (Int32 → wPS → Prop)} : ∀ k' : Nat, (∀ (l3I : Int32) (l4I : Int32) (l5I : Int32) (S : wPS) , mJ1_indexOfChar_4cfef_go F k' 0 l3I l4I l5I  = some v → (Φ v S) → rJ1_indexOfChar_4cfef_go F k' 0 l3I l4I l5I S Φ) := by
  intro k'
  induction k' with
  | zero => exact (fun _ _ _ _ h _ => by cases h)
  | succ k' ih =>
    intro l3I l4I l5I S h k
    rw [mJ1_indexOfChar_4cfef_go, if_pos rfl] at h
    rw [rJ1_indexOfChar_4cfef_go, if_pos rfl]
    unfold mJ1_indexOfChar_4cfef_b0 at h
    unfold rJ1_indexOfChar_4cfef_b0
    refine mIf h Iff.rfl (fun c1 h => ?_) (fun c1 h => ?_)
    · cases h
      exact k
    · refine mGd h Iff.rfl (fun c2 h => ?_)
      refine mIf h Iff.rfl (fun c3 h => ?_) (fun c3 h => ?_)
      · cases h
        exact k
      · refine mLet h rfl (fun x4 ex4 h => ?_)
        exact ih _ _ _ _ h k
set_option maxHeartbeats 4000000 in
set_option maxRecDepth 100000 in
theorem LJ1_indexOfChar_4cfef {F : Nat} {S : wPS} {v : Int32} {Φ : (Int32 → wPS → Prop)} {l1Ix l1I : Int32} {l2Ix l2I : Int32} {l3Ix l3I : Int32} (h : mJ1_indexOfChar_4cfef F l1I l2I l3I  = some v) (el1I : l1Ix = l1I) (el2I : l2Ix = l2I) (el3I : l3Ix = l3I) (k : (Φ v S)) : rJ1_indexOfChar_4cfef F l1Ix l2Ix l3Ix S Φ := by
  have el1I := el1I.symm
  subst el1I
  have el2I := el2I.symm
  subst el2I
  have el3I := el3I.symm
  subst el3I
  have ih := LJ1_indexOfChar_4cfef_go  (F := F) (v := v) (Φ := Φ) F
  unfold mJ1_indexOfChar_4cfef mJ1_indexOfChar_4cfef_s at h
  unfold rJ1_indexOfChar_4cfef rJ1_indexOfChar_4cfef_s
  refine mLet h rfl (fun x5 ex5 h => ?_)
  exact ih _ _ _ _ h k
def mJ7_fill_d0a16_b0 (F : Nat) (rec : Nat → Nat → Int64 → Int32 → Int32 → mV → Option (Unit × mV)) (l0A : Nat) (l1J : Int64) (l3I : Int32) (l4I : Int32) (V : mV) : Option (Unit × mV) :=
  (if l4I ≤ l3I then some ((), V) else (if l3I < 0 ∨ mLen l0A ≤ (l3I).toNatClampNeg then none else (mLt (mJ V l0A (l3I) (l1J)) fun V3 => (mLt (l3I + (1 : Int32)) fun x4 => (rec 0 l0A (l1J) (x4) (l4I) V3)))))
def mJ7_fill_d0a16_go (F : Nat) : Nat → Nat → Nat → Int64 → Int32 → Int32 → mV → Option (Unit × mV)
  | 0, _, _, _, _, _, _ => none
  | k' + 1, lab, l0A, l1J, l3I, l4I, V => if lab = 0 then mJ7_fill_d0a16_b0 F (mJ7_fill_d0a16_go F k') l0A l1J l3I l4I V else none
def mJ7_fill_d0a16_s (F : Nat) (rec : Nat → Nat → Int64 → Int32 → Int32 → mV → Option (Unit × mV)) (l0A : Nat) (l1J : Int64) (V : mV) : Option (Unit × mV) :=
  (mLt (Int32.ofNat (mLen l0A)) fun x5 => (rec 0 l0A (l1J) ((0 : Int32)) (x5) V))
def mJ7_fill_d0a16 (F : Nat) (l0A : Nat) (l1J : Int64) (V : mV) : Option (Unit × mV) := mJ7_fill_d0a16_s F (mJ7_fill_d0a16_go F F) l0A l1J V
set_option maxHeartbeats 4000000 in
set_option maxRecDepth 100000 in
theorem LJ7_fill_d0a16_go {α : Nat → Nat} {F : Nat} {Ln : Nat → Nat} {v : Unit} {V1 : mV} {Φ : (Unit → wPS → Prop)} : ∀ k' : Nat, (∀ (l0A : Nat) (l1J : Int64) (l3I : Int32) (l4I : Int32) (S : wPS) (V : mV) , mRel α S Ln V → mK l0A = 14 → mJ7_fill_d0a16_go F k' 0 l0A l1J l3I l4I V = some (v, V1) → (∀ S1, mRel α S1 Ln V1 → mFr α S S1 → Φ v S1) → rJ7_fill_d0a16_go F k' 0 (α l0A) l1J l3I l4I S Φ) := by
  intro k'
  induction k' with
  | zero => exact (fun _ _ _ _ _ _ _ _ h _ => by cases h)
  | succ k' ih =>
    intro l0A l1J l3I l4I S V R sl0A h k
    rw [mJ7_fill_d0a16_go, if_pos rfl] at h
    rw [rJ7_fill_d0a16_go, if_pos rfl]
    unfold mJ7_fill_d0a16_b0 at h
    unfold rJ7_fill_d0a16_b0
    refine mIf h Iff.rfl (fun c1 h => ?_) (fun c1 h => ?_)
    · obtain ⟨rfl, rfl⟩ := mRW h
      exact k _ R mFr.rf
    · refine mGd h (by rw [show S.len (α l0A) = mLen l0A from (mg_len R (mA14 sl0A) rfl)]) (fun c2 h => ?_)
      obtain ⟨V3, eV3, h⟩ := mLt_some h
      refine mU_J eV3 R (mA14 sl0A) rfl rfl rfl (fun S3 R3 F3 => ?_)
      refine mLet h rfl (fun x4 ex4 h => ?_)
      exact ih _ _ _ _ _ _ R3 sl0A h (fun S1 R1 F1 => k S1 R1 (F3.tr F1))
set_option maxHeartbeats 4000000 in
set_option maxRecDepth 100000 in
theorem LJ7_fill_d0a16 {α : Nat → Nat} {F : Nat} {S : wPS} {Ln : Nat → Nat} {V V1 : mV} {v : Unit} {Φ : (Unit → wPS → Prop)} {l0Ax : Nat} {l0A : Nat} {l1Jx l1J : Int64} (h : mJ7_fill_d0a16 F l0A l1J V = some (v, V1)) (R : mRel α S Ln V) (sl0A : mK l0A = 14) (el0A : l0Ax = α l0A) (el1J : l1Jx = l1J) (k : (∀ S1, mRel α S1 Ln V1 → mFr α S S1 → Φ v S1)) : rJ7_fill_d0a16 F l0Ax l1Jx S Φ := by
  have el0A := el0A.symm
  subst el0A
  have el1J := el1J.symm
  subst el1J
  have ih := LJ7_fill_d0a16_go  (α := α) (F := F) (v := v) (Ln := Ln) (Φ := Φ) (V1 := V1) F
  unfold mJ7_fill_d0a16 mJ7_fill_d0a16_s at h
  unfold rJ7_fill_d0a16 rJ7_fill_d0a16_s
  refine mLet h (by rw [show S.len (α l0A) = mLen l0A from (mg_len R (mA14 sl0A) rfl)]) (fun x5 ex5 h => ?_)
  exact ih _ _ _ _ _ _ R sl0A h (fun S1 R1 F1 => k S1 R1 F1)
def mJ7_fill_53178_b0 (F : Nat) (rec : Nat → Nat → Int32 → Int32 → Int32 → mV → Option (Unit × mV)) (l0A : Nat) (l1I : Int32) (l2I : Int32) (l3I : Int32) (V : mV) : Option (Unit × mV) :=
  (if l3I ≤ l2I then some ((), V) else (if l2I < 0 ∨ mLen l0A ≤ (l2I).toNatClampNeg then none else (mLt (mI V l0A (l2I) (l1I)) fun V3 => (mLt (l2I + (1 : Int32)) fun x4 => (rec 0 l0A (l1I) (x4) (l3I) V3)))))
def mJ7_fill_53178_go (F : Nat) : Nat → Nat → Nat → Int32 → Int32 → Int32 → mV → Option (Unit × mV)
  | 0, _, _, _, _, _, _ => none
  | k' + 1, lab, l0A, l1I, l2I, l3I, V => if lab = 0 then mJ7_fill_53178_b0 F (mJ7_fill_53178_go F k') l0A l1I l2I l3I V else none
def mJ7_fill_53178_s (F : Nat) (rec : Nat → Nat → Int32 → Int32 → Int32 → mV → Option (Unit × mV)) (l0A : Nat) (l1I : Int32) (V : mV) : Option (Unit × mV) :=
  (mLt (Int32.ofNat (mLen l0A)) fun x5 => (rec 0 l0A (l1I) ((0 : Int32)) (x5) V))
def mJ7_fill_53178 (F : Nat) (l0A : Nat) (l1I : Int32) (V : mV) : Option (Unit × mV) := mJ7_fill_53178_s F (mJ7_fill_53178_go F F) l0A l1I V
set_option maxHeartbeats 4000000 in
set_option maxRecDepth 100000 in
theorem LJ7_fill_53178_go {α : Nat → Nat} {F : Nat} {Ln : Nat → Nat} {v : Unit} {V1 : mV} {Φ : (Unit → wPS → Prop)} : ∀ k' : Nat, (∀ (l0A : Nat) (l1I : Int32) (l2I : Int32) (l3I : Int32) (S : wPS) (V : mV) , mRel α S Ln V → mK l0A = 13 → mJ7_fill_53178_go F k' 0 l0A l1I l2I l3I V = some (v, V1) → (∀ S1, mRel α S1 Ln V1 → mFr α S S1 → Φ v S1) → rJ7_fill_53178_go F k' 0 (α l0A) l1I l2I l3I S Φ) := by
  intro k'
  induction k' with
  | zero => exact (fun _ _ _ _ _ _ _ _ h _ => by cases h)
  | succ k' ih =>
    intro l0A l1I l2I l3I S V R sl0A h k
    rw [mJ7_fill_53178_go, if_pos rfl] at h
    rw [rJ7_fill_53178_go, if_pos rfl]
    unfold mJ7_fill_53178_b0 at h
    unfold rJ7_fill_53178_b0
    refine mIf h Iff.rfl (fun c1 h => ?_) (fun c1 h => ?_)
    · obtain ⟨rfl, rfl⟩ := mRW h
      exact k _ R mFr.rf
    · refine mGd h (by rw [show S.len (α l0A) = mLen l0A from (mg_len R (mA13 sl0A) rfl)]) (fun c2 h => ?_)
      obtain ⟨V3, eV3, h⟩ := mLt_some h
      refine mU_I eV3 R (mA13 sl0A) rfl rfl rfl (fun S3 R3 F3 => ?_)
      refine mLet h rfl (fun x4 ex4 h => ?_)
      exact ih _ _ _ _ _ _ R3 sl0A h (fun S1 R1 F1 => k S1 R1 (F3.tr F1))
set_option maxHeartbeats 4000000 in
set_option maxRecDepth 100000 in
theorem LJ7_fill_53178 {α : Nat → Nat} {F : Nat} {S : wPS} {Ln : Nat → Nat} {V V1 : mV} {v : Unit} {Φ : (Unit → wPS → Prop)} {l0Ax : Nat} {l0A : Nat} {l1Ix l1I : Int32} (h : mJ7_fill_53178 F l0A l1I V = some (v, V1)) (R : mRel α S Ln V) (sl0A : mK l0A = 13) (el0A : l0Ax = α l0A) (el1I : l1Ix = l1I) (k : (∀ S1, mRel α S1 Ln V1 → mFr α S S1 → Φ v S1)) : rJ7_fill_53178 F l0Ax l1Ix S Φ := by
  have el0A := el0A.symm
  subst el0A
  have el1I := el1I.symm
  subst el1I
  have ih := LJ7_fill_53178_go  (α := α) (F := F) (v := v) (Ln := Ln) (Φ := Φ) (V1 := V1) F
  unfold mJ7_fill_53178 mJ7_fill_53178_s at h
  unfold rJ7_fill_53178 rJ7_fill_53178_s
  refine mLet h (by rw [show S.len (α l0A) = mLen l0A from (mg_len R (mA13 sl0A) rfl)]) (fun x5 ex5 h => ?_)
  exact ih _ _ _ _ _ _ R sl0A h (fun S1 R1 F1 => k S1 R1 F1)
def mJ3_checkIndex_8e157 (F : Nat) (l0I : Int32) (l1I : Int32) : Option Int32 :=
  (if l0I < 0 then none else (if l0I < l1I then some (l0I) else none))
set_option maxHeartbeats 4000000 in
set_option maxRecDepth 100000 in
theorem LJ3_checkIndex_8e157 {F : Nat} {S : wPS} {v : Int32} {Φ : (Int32 → wPS → Prop)} {l0Ix l0I : Int32} {l1Ix l1I : Int32} (h : mJ3_checkIndex_8e157 F l0I l1I  = some v) (el0I : l0Ix = l0I) (el1I : l1Ix = l1I) (k : (Φ v S)) : rJ3_checkIndex_8e157 F l0Ix l1Ix S Φ := by
  have el0I := el0I.symm
  subst el0I
  have el1I := el1I.symm
  subst el1I
  unfold mJ3_checkIndex_8e157 at h
  unfold rJ3_checkIndex_8e157
  refine mIf h Iff.rfl (fun c1 h => ?_) (fun c1 h => ?_)
  · cases h
  · refine mIf h Iff.rfl (fun c2 h => ?_) (fun c2 h => ?_)
    · cases h
      exact k
    · cases h
def mX0_begin (F : Nat) (Ln : Nat → Nat) (l0A : Nat) (l1I : Int32) (l2I : Int32) (l3I : Int32) (l4A : Nat) (V : mV) : Option (Unit × (Nat → Nat) × mV) :=
  (mLt (mF V l0A 0 (l1I)) fun V1 => (mLt (mF V1 l0A 1 (l2I)) fun V2 => (if ¬ ((l3I = 0 ∨ l3I = 1)) then none else (mLt (mF V2 l0A 2 (l3I)) fun V4 => (mBA (mX9_copy F Ln (l0A + 1) l4A V4) fun v5 L6 V6 => some ((), L6, V6))))))
set_option maxHeartbeats 4000000 in
set_option maxRecDepth 100000 in
theorem MX0_begin {F : Nat} {Ln Ln1 : Nat → Nat} {V V1 : mV} {v : Unit} {l0A : Nat} {l1I : Int32} {l2I : Int32} {l3I : Int32} {l4A : Nat} (h : mX0_begin F Ln l0A l1I l2I l3I l4A V = some (v, Ln1, V1)) : mP Ln1 ≤ mP Ln := by
  unfold mX0_begin at h
  obtain ⟨_, _, h⟩ := mLt_some h
  obtain ⟨_, _, h⟩ := mLt_some h
  obtain ⟨_, h⟩ := mGd_some h
  obtain ⟨_, _, h⟩ := mLt_some h
  obtain ⟨_, _, _, z1, h⟩ := mBA_some h
  refine Nat.le_trans ?_ (MX9_copy z1)
  cases h
  exact Nat.le_refl _
set_option maxHeartbeats 4000000 in
set_option maxRecDepth 100000 in
theorem LX0_begin {α : Nat → Nat} {F : Nat} {S : wPS} {Ln Ln1 : Nat → Nat} {V V1 : mV} {v : Unit} {Φ : (Unit → wPS → Prop)} {l0Ax : Nat} {l0A : Nat} {l1Ix l1I : Int32} {l2Ix l2I : Int32} {l3Ix l3I : Int32} {l4Ax : Nat} {l4A : Nat} {k0 n0 : Nat} (h : mX0_begin F Ln l0A l1I l2I l3I l4A V = some (v, Ln1, V1)) (R : mRel α S Ln V) (sl0A : mK l0A = 0) (sl4A : mK l4A = 9) (el0A : l0Ax = α l0A) (el1I : l1Ix = l1I) (el2I : l2Ix = l2I) (el3I : l3Ix = l3I) (el4A : l4Ax = α l4A) (hk : (mP Ln - mP Ln1) / 16 ≤ k0) (hn : mP Ln - mP Ln1 ≤ n0) (k : (∀ S1, mRel α S1 Ln1 V1 → mFr α S S1 → Φ v S1)) : rX0_begin F k0 n0 l0Ax l1Ix l2Ix l3Ix l4Ax S Φ := by
  have el0A := el0A.symm
  subst el0A
  have el1I := el1I.symm
  subst el1I
  have el2I := el2I.symm
  subst el2I
  have el3I := el3I.symm
  subst el3I
  have el4A := el4A.symm
  subst el4A
  unfold mX0_begin at h
  unfold rX0_begin
  obtain ⟨V1, eV1, h⟩ := mLt_some h
  refine mU_F eV1 R (mO0 sl0A) rfl rfl (fun S1 R1 F1 => ?_)
  obtain ⟨V2, eV2, h⟩ := mLt_some h
  refine mU_F eV2 R1 (mO0 sl0A) rfl rfl (fun S2 R2 F2 => ?_)
  refine mGp h Iff.rfl (fun c2 h => ?_)
  obtain ⟨V4, eV4, h⟩ := mLt_some h
  refine mU_F eV4 R2 (mO0 sl0A) rfl rfl (fun S4 R4 F4 => ?_)
  obtain ⟨v5, L6, V6, hv5, h⟩ := mBA_some h
  have mv5 : mP L6 ≤ mP Ln := MX9_copy hv5
  have qv5 : mP Ln1 ≤ mP L6 := by
    cases h
    exact Nat.le_refl _
  refine ⟨(mP Ln - mP L6) / 16, mP Ln - mP L6, by omega, by omega, ?_⟩
  refine LX9_copy hv5 R4 (mKc1 sl0A) sl4A (mg_A (t := (l0A + 1)) R4 (mRc sl0A) rfl) rfl (by omega) (by omega) (fun S6 R6 F6 => ?_)
  obtain ⟨rfl, rfl, rfl⟩ := mRA3 h
  exact k _ R6 (F1.tr (F2.tr (F4.tr F6)))
def mX1_isBroken_b0 (F : Nat) (rec : Nat → Nat → Int32 → Int32 → mV → Option Int32) (l1A : Nat) (l2I : Int32) (l3I : Int32) (V : mV) : Option Int32 :=
  (if (3 : Int32) ≤ l3I then some ((1 : Int32)) else (mBN (mX3_at F l1A (l2I) (l3I) V) fun v2 => (mLt ((if 0 ≤ v2 then v2 else 0 - v2) - (1 : Int32)) fun x7 => (if v2 = 0 then (mLt (l3I + (1 : Int32)) fun x9 => (rec 0 l1A (l2I) (x9) V)) else (if (V.fI 5 4) ≤ x7 then some ((0 : Int32)) else (mBN (mX11_has F ((V.fI 5 5)) (x7)) fun v11 => (if v2 ≤ 0 then (if v11 = (0 : Int32) then some ((0 : Int32)) else (mLt (l3I + (1 : Int32)) fun x18 => (rec 0 l1A (l2I) (x18) V))) else (if v11 = (1 : Int32) then some ((0 : Int32)) else (mLt (l3I + (1 : Int32)) fun x20 => (rec 0 l1A (l2I) (x20) V))))))))))
def mX1_isBroken_go (F : Nat) : Nat → Nat → Nat → Int32 → Int32 → mV → Option Int32
  | 0, _, _, _, _, _ => none
  | k' + 1, lab, l1A, l2I, l3I, V => if lab = 0 then mX1_isBroken_b0 F (mX1_isBroken_go F k') l1A l2I l3I V else none
def mX1_isBroken_s (F : Nat) (rec : Nat → Nat → Int32 → Int32 → mV → Option Int32) (l1A : Nat) (l2I : Int32) (V : mV) : Option Int32 :=
  (rec 0 l1A (l2I) ((0 : Int32)) V)
def mX1_isBroken (F : Nat) (l1A : Nat) (l2I : Int32) (V : mV) : Option Int32 := mX1_isBroken_s F (mX1_isBroken_go F F) l1A l2I V
set_option maxHeartbeats 4000000 in
set_option maxRecDepth 100000 in
theorem LX1_isBroken_go {α : Nat → Nat} {F : Nat} {Ln : Nat → Nat} {v : Int32} {Φ : (Int32 → wPS → Prop)} : ∀ k' : Nat, (∀ (l1A : Nat) (l2I : Int32) (l3I : Int32) (S : wPS) (V : mV) , mRel α S Ln V → mK l1A = 3 → mX1_isBroken_go F k' 0 l1A l2I l3I V = some v → (Φ v S) → rX1_isBroken_go F k' 0 (α 5) (α l1A) l2I l3I S Φ) := by
  intro k'
  induction k' with
  | zero => exact (fun _ _ _ _ _ _ _ h _ => by cases h)
  | succ k' ih =>
    intro l1A l2I l3I S V R sl1A h k
    rw [mX1_isBroken_go, if_pos rfl] at h
    rw [rX1_isBroken_go, if_pos rfl]
    unfold mX1_isBroken_b0 at h
    unfold rX1_isBroken_b0
    refine mIf h Iff.rfl (fun c1 h => ?_) (fun c1 h => ?_)
    · cases h
      exact k
    · obtain ⟨v2, hv2, h⟩ := mBN_some h
      refine LX3_at hv2 R sl1A rfl rfl rfl ?_
      refine mLet h rfl (fun x7 ex7 h => ?_)
      refine mIf h Iff.rfl (fun c2 h => ?_) (fun c2 h => ?_)
      · refine mLet h rfl (fun x9 ex9 h => ?_)
        exact ih _ _ _ _ _ R sl1A h k
      · refine mIf h (by rw [show gClauses_depth S (α 5) = V.fI 5 4 from (mg_I (i := 5) R (by decide) rfl 4)]) (fun c3 h => ?_) (fun c3 h => ?_)
        · cases h
          exact k
        · obtain ⟨v11, hv11, h⟩ := mBN_some h
          refine LX11_has hv11 (by rw [show gClauses_ones S (α 5) = V.fI 5 5 from (mg_I (i := 5) R (by decide) rfl 5)]) rfl ?_
          refine mIf h Iff.rfl (fun c4 h => ?_) (fun c4 h => ?_)
          · refine mIf h Iff.rfl (fun c5 h => ?_) (fun c5 h => ?_)
            · cases h
              exact k
            · refine mLet h rfl (fun x18 ex18 h => ?_)
              exact ih _ _ _ _ _ R sl1A h k
          · refine mIf h Iff.rfl (fun c6 h => ?_) (fun c6 h => ?_)
            · cases h
              exact k
            · refine mLet h rfl (fun x20 ex20 h => ?_)
              exact ih _ _ _ _ _ R sl1A h k
set_option maxHeartbeats 4000000 in
set_option maxRecDepth 100000 in
theorem LX1_isBroken {α : Nat → Nat} {F : Nat} {S : wPS} {Ln : Nat → Nat} {V : mV} {v : Int32} {Φ : (Int32 → wPS → Prop)} {l0Ax : Nat} {l1Ax : Nat} {l1A : Nat} {l2Ix l2I : Int32} (h : mX1_isBroken F l1A l2I V = some v) (R : mRel α S Ln V) (sl1A : mK l1A = 3) (el0A : l0Ax = α 5) (el1A : l1Ax = α l1A) (el2I : l2Ix = l2I) (k : (Φ v S)) : rX1_isBroken F l0Ax l1Ax l2Ix S Φ := by
  have el0A := el0A.symm
  subst el0A
  have el1A := el1A.symm
  subst el1A
  have el2I := el2I.symm
  subst el2I
  have ih := LX1_isBroken_go  (α := α) (F := F) (v := v) (Ln := Ln) (Φ := Φ) F
  unfold mX1_isBroken mX1_isBroken_s at h
  unfold rX1_isBroken rX1_isBroken_s
  exact ih _ _ _ _ _ R sl1A h k
def mX1_goBack_b0 (F : Nat) (rec : Nat → mV → Option (Unit × mV)) (V : mV) : Option (Unit × mV) :=
  (if (V.fI 5 4) ≤ 0 then (if (V.fI 5 4) = 0 then (mLt (mF V 5 6 ((1 : Int32))) fun V4 => some ((), V4)) else (mLt (mF V 5 5 (((V.fI 5 5) ||| ((1 : Int32) <<< (((V.fI 5 4) - (1 : Int32)) &&& 31))))) fun V3 => some ((), V3))) else (mBN (mX11_has F ((V.fI 5 5)) (((V.fI 5 4) - (1 : Int32)))) fun v5 => (if v5 = 0 then (if (V.fI 5 4) = 0 then (mLt (mF V 5 6 ((1 : Int32))) fun V13 => some ((), V13)) else (mLt (mF V 5 5 (((V.fI 5 5) ||| ((1 : Int32) <<< (((V.fI 5 4) - (1 : Int32)) &&& 31))))) fun V12 => some ((), V12))) else (mLt (mF V 5 4 (((V.fI 5 4) - (1 : Int32)))) fun V14 => (mLt (mF V14 5 5 (((V14.fI 5 5) &&& (((1 : Int32) <<< ((V14.fI 5 4) &&& 31)) ^^^ (-1 : Int32))))) fun V15 => (mBW (mX1_deriveAt F ((V15.fI 5 4)) V15) fun v16 V17 => (rec 0 V17)))))))
def mX1_goBack_go (F : Nat) : Nat → Nat → mV → Option (Unit × mV)
  | 0, _, _ => none
  | k' + 1, lab, V => if lab = 0 then mX1_goBack_b0 F (mX1_goBack_go F k') V else none
def mX1_goBack_s (F : Nat) (rec : Nat → mV → Option (Unit × mV)) (V : mV) : Option (Unit × mV) :=
  (rec 0 V)
def mX1_goBack (F : Nat) (V : mV) : Option (Unit × mV) := mX1_goBack_s F (mX1_goBack_go F F) V
set_option maxHeartbeats 4000000 in
set_option maxRecDepth 100000 in
theorem LX1_goBack_go {α : Nat → Nat} {F : Nat} {Ln : Nat → Nat} {v : Unit} {V1 : mV} {Φ : (Unit → wPS → Prop)} : ∀ k' : Nat, (∀ (S : wPS) (V : mV) , mRel α S Ln V → mX1_goBack_go F k' 0 V = some (v, V1) → (∀ S1, mRel α S1 Ln V1 → mFr α S S1 → Φ v S1) → rX1_goBack_go F k' 0 (α 5) S Φ) := by
  intro k'
  induction k' with
  | zero => exact (fun _ _ _ h _ => by cases h)
  | succ k' ih =>
    intro S V R h k
    rw [mX1_goBack_go, if_pos rfl] at h
    rw [rX1_goBack_go, if_pos rfl]
    unfold mX1_goBack_b0 at h
    unfold rX1_goBack_b0
    refine mIf h (by rw [show gClauses_depth S (α 5) = V.fI 5 4 from (mg_I (i := 5) R (by decide) rfl 4)]) (fun c1 h => ?_) (fun c1 h => ?_)
    · refine mIf h (by rw [show gClauses_depth S (α 5) = V.fI 5 4 from (mg_I (i := 5) R (by decide) rfl 4)]) (fun c2 h => ?_) (fun c2 h => ?_)
      · obtain ⟨V4, eV4, h⟩ := mLt_some h
        refine mU_F eV4 R (by decide) rfl rfl (fun S4 R4 F4 => ?_)
        obtain ⟨rfl, rfl⟩ := mRW h
        exact k _ R4 F4
      · obtain ⟨V3, eV3, h⟩ := mLt_some h
        refine mU_F eV3 R (by decide) rfl (by rw [show gClauses_depth S (α 5) = V.fI 5 4 from (mg_I (i := 5) R (by decide) rfl 4), show gClauses_ones S (α 5) = V.fI 5 5 from (mg_I (i := 5) R (by decide) rfl 5)]) (fun S3 R3 F3 => ?_)
        obtain ⟨rfl, rfl⟩ := mRW h
        exact k _ R3 F3
    · obtain ⟨v5, hv5, h⟩ := mBN_some h
      refine LX11_has hv5 (by rw [show gClauses_ones S (α 5) = V.fI 5 5 from (mg_I (i := 5) R (by decide) rfl 5)]) (by rw [show gClauses_depth S (α 5) = V.fI 5 4 from (mg_I (i := 5) R (by decide) rfl 4)]) ?_
      refine mIf h Iff.rfl (fun c3 h => ?_) (fun c3 h => ?_)
      · refine mIf h (by rw [show gClauses_depth S (α 5) = V.fI 5 4 from (mg_I (i := 5) R (by decide) rfl 4)]) (fun c4 h => ?_) (fun c4 h => ?_)
        · obtain ⟨V13, eV13, h⟩ := mLt_some h
          refine mU_F eV13 R (by decide) rfl rfl (fun S13 R13 F13 => ?_)
          obtain ⟨rfl, rfl⟩ := mRW h
          exact k _ R13 F13
        · obtain ⟨V12, eV12, h⟩ := mLt_some h
          refine mU_F eV12 R (by decide) rfl (by rw [show gClauses_depth S (α 5) = V.fI 5 4 from (mg_I (i := 5) R (by decide) rfl 4), show gClauses_ones S (α 5) = V.fI 5 5 from (mg_I (i := 5) R (by decide) rfl 5)]) (fun S12 R12 F12 => ?_)
          obtain ⟨rfl, rfl⟩ := mRW h
          exact k _ R12 F12
      · obtain ⟨V14, eV14, h⟩ := mLt_some h
        refine mU_F eV14 R (by decide) rfl (by rw [show gClauses_depth S (α 5) = V.fI 5 4 from (mg_I (i := 5) R (by decide) rfl 4)]) (fun S14 R14 F14 => ?_)
        obtain ⟨V15, eV15, h⟩ := mLt_some h
        refine mU_F eV15 R14 (by decide) rfl (by rw [show gClauses_depth S14 (α 5) = V14.fI 5 4 from (mg_I (i := 5) R14 (by decide) rfl 4), show gClauses_ones S14 (α 5) = V14.fI 5 5 from (mg_I (i := 5) R14 (by decide) rfl 5)]) (fun S15 R15 F15 => ?_)
        obtain ⟨v16, V17, hv16, h⟩ := mBW_some h
        refine LX1_deriveAt hv16 R15 rfl (by rw [show gClauses_depth S15 (α 5) = V15.fI 5 4 from (mg_I (i := 5) R15 (by decide) rfl 4)]) (fun S17 R17 F17 => ?_)
        exact ih _ _ R17 h (fun S1 R1 F1 => k S1 R1 (F14.tr (F15.tr (F17.tr F1))))
set_option maxHeartbeats 4000000 in
set_option maxRecDepth 100000 in
theorem LX1_goBack {α : Nat → Nat} {F : Nat} {S : wPS} {Ln : Nat → Nat} {V V1 : mV} {v : Unit} {Φ : (Unit → wPS → Prop)} {l0Ax : Nat} (h : mX1_goBack F V = some (v, V1)) (R : mRel α S Ln V) (el0A : l0Ax = α 5) (k : (∀ S1, mRel α S1 Ln V1 → mFr α S S1 → Φ v S1)) : rX1_goBack F l0Ax S Φ := by
  have el0A := el0A.symm
  subst el0A
  have ih := LX1_goBack_go  (α := α) (F := F) (v := v) (Ln := Ln) (Φ := Φ) (V1 := V1) F
  unfold mX1_goBack mX1_goBack_s at h
  unfold rX1_goBack
  exact ih _ _ R h (fun S1 R1 F1 => k S1 R1 F1)
def mX1_codeOf_b0 (F : Nat) (rec : Nat → Nat → Int32 → Int32 → Int32 → mV → Option Int32) (l0A : Nat) (l1I : Int32) (l2I : Int32) (l3I : Int32) (V : mV) : Option Int32 :=
  (if (3 : Int32) ≤ l3I then some (l2I) else (mBN (mX3_at F l0A (l1I) (l3I) V) fun v2 => (if v2 ≤ 0 then (if 0 ≤ v2 then (mLt (l3I + (1 : Int32)) fun x9 => (rec 0 l0A (l1I) (l2I) (x9) V)) else (mLt (l2I ||| ((64 : Int32) <<< (((-v2) - (1 : Int32)) &&& 31))) fun x10 => (mLt (l3I + (1 : Int32)) fun x11 => (rec 0 l0A (l1I) (x10) (x11) V)))) else (mLt (l2I ||| ((1 : Int32) <<< ((v2 - (1 : Int32)) &&& 31))) fun x12 => (mLt (l3I + (1 : Int32)) fun x13 => (rec 0 l0A (l1I) (x12) (x13) V))))))
def mX1_codeOf_go (F : Nat) : Nat → Nat → Nat → Int32 → Int32 → Int32 → mV → Option Int32
  | 0, _, _, _, _, _, _ => none
  | k' + 1, lab, l0A, l1I, l2I, l3I, V => if lab = 0 then mX1_codeOf_b0 F (mX1_codeOf_go F k') l0A l1I l2I l3I V else none
def mX1_codeOf_s (F : Nat) (rec : Nat → Nat → Int32 → Int32 → Int32 → mV → Option Int32) (l0A : Nat) (l1I : Int32) (V : mV) : Option Int32 :=
  (rec 0 l0A (l1I) ((0 : Int32)) ((0 : Int32)) V)
def mX1_codeOf (F : Nat) (l0A : Nat) (l1I : Int32) (V : mV) : Option Int32 := mX1_codeOf_s F (mX1_codeOf_go F F) l0A l1I V
set_option maxHeartbeats 4000000 in
set_option maxRecDepth 100000 in
theorem LX1_codeOf_go {α : Nat → Nat} {F : Nat} {Ln : Nat → Nat} {v : Int32} {Φ : (Int32 → wPS → Prop)} : ∀ k' : Nat, (∀ (l0A : Nat) (l1I : Int32) (l2I : Int32) (l3I : Int32) (S : wPS) (V : mV) , mRel α S Ln V → mK l0A = 3 → mX1_codeOf_go F k' 0 l0A l1I l2I l3I V = some v → (Φ v S) → rX1_codeOf_go F k' 0 (α l0A) l1I l2I l3I S Φ) := by
  intro k'
  induction k' with
  | zero => exact (fun _ _ _ _ _ _ _ _ h _ => by cases h)
  | succ k' ih =>
    intro l0A l1I l2I l3I S V R sl0A h k
    rw [mX1_codeOf_go, if_pos rfl] at h
    rw [rX1_codeOf_go, if_pos rfl]
    unfold mX1_codeOf_b0 at h
    unfold rX1_codeOf_b0
    refine mIf h Iff.rfl (fun c1 h => ?_) (fun c1 h => ?_)
    · cases h
      exact k
    · obtain ⟨v2, hv2, h⟩ := mBN_some h
      refine LX3_at hv2 R sl0A rfl rfl rfl ?_
      refine mIf h Iff.rfl (fun c2 h => ?_) (fun c2 h => ?_)
      · refine mIf h Iff.rfl (fun c3 h => ?_) (fun c3 h => ?_)
        · refine mLet h rfl (fun x9 ex9 h => ?_)
          exact ih _ _ _ _ _ _ R sl0A h k
        · refine mLet h rfl (fun x10 ex10 h => ?_)
          refine mLet h rfl (fun x11 ex11 h => ?_)
          exact ih _ _ _ _ _ _ R sl0A h k
      · refine mLet h rfl (fun x12 ex12 h => ?_)
        refine mLet h rfl (fun x13 ex13 h => ?_)
        exact ih _ _ _ _ _ _ R sl0A h k
set_option maxHeartbeats 4000000 in
set_option maxRecDepth 100000 in
theorem LX1_codeOf {α : Nat → Nat} {F : Nat} {S : wPS} {Ln : Nat → Nat} {V : mV} {v : Int32} {Φ : (Int32 → wPS → Prop)} {l0Ax : Nat} {l0A : Nat} {l1Ix l1I : Int32} (h : mX1_codeOf F l0A l1I V = some v) (R : mRel α S Ln V) (sl0A : mK l0A = 3) (el0A : l0Ax = α l0A) (el1I : l1Ix = l1I) (k : (Φ v S)) : rX1_codeOf F l0Ax l1Ix S Φ := by
  have el0A := el0A.symm
  subst el0A
  have el1I := el1I.symm
  subst el1I
  have ih := LX1_codeOf_go  (α := α) (F := F) (v := v) (Ln := Ln) (Φ := Φ) F
  unfold mX1_codeOf mX1_codeOf_s at h
  unfold rX1_codeOf rX1_codeOf_s
  exact ih _ _ _ _ _ _ R sl0A h k
def mX1_isLeaf (F : Nat) (l1A : Nat) (l2I : Int32) (V : mV) : Option Int32 :=
  (if l2I < 0 then (mBN (mJ6_bitCount_0f7a4 F ((V.fI 5 5))) fun v2 => (if v2 ≤ (V.fI l1A 8) then some ((0 : Int32)) else some ((1 : Int32)))) else (mBN (mX1_isBroken F l1A (l2I) V) fun v8 => (if ¬ ((v8 = 0 ∨ v8 = 1)) then none else some (v8))))
set_option maxHeartbeats 4000000 in
set_option maxRecDepth 100000 in
theorem LX1_isLeaf {α : Nat → Nat} {F : Nat} {S : wPS} {Ln : Nat → Nat} {V : mV} {v : Int32} {Φ : (Int32 → wPS → Prop)} {l0Ax : Nat} {l1Ax : Nat} {l1A : Nat} {l2Ix l2I : Int32} (h : mX1_isLeaf F l1A l2I V = some v) (R : mRel α S Ln V) (sl1A : mK l1A = 3) (el0A : l0Ax = α 5) (el1A : l1Ax = α l1A) (el2I : l2Ix = l2I) (k : (Φ v S)) : rX1_isLeaf F l0Ax l1Ax l2Ix S Φ := by
  have el0A := el0A.symm
  subst el0A
  have el1A := el1A.symm
  subst el1A
  have el2I := el2I.symm
  subst el2I
  unfold mX1_isLeaf at h
  unfold rX1_isLeaf
  refine mIf h Iff.rfl (fun c1 h => ?_) (fun c1 h => ?_)
  · obtain ⟨v2, hv2, h⟩ := mBN_some h
    refine LJ6_bitCount_0f7a4 hv2 (by rw [show gClauses_ones S (α 5) = V.fI 5 5 from (mg_I (i := 5) R (by decide) rfl 5)]) ?_
    refine mIf h (by rw [show gEntry_boundNow S (α l1A) = V.fI l1A 8 from (mg_I (i := l1A) R (mO3 sl1A) rfl 8)]) (fun c2 h => ?_) (fun c2 h => ?_)
    · cases h
      exact k
    · cases h
      exact k
  · obtain ⟨v8, hv8, h⟩ := mBN_some h
    refine LX1_isBroken hv8 R sl1A rfl rfl rfl ?_
    refine mGp h Iff.rfl (fun c3 h => ?_)
    cases h
    exact k
def mX2_countWalksDue_b0 (F : Nat) (rec : Nat → Int32 → Int32 → Int32 → Int32 → Int32 → Int32 → Int32 → mV → Option Int32) (l1I : Int32) (l2I : Int32) (l3I : Int32) (l4I : Int32) (l5I : Int32) (l6I : Int32) (l7I : Int32) (V : mV) : Option Int32 :=
  (if l1I < l7I then some ((((l3I / (2 : Int32)) - l4I) + ((2 : Int32) * l5I))) else (if l7I < 0 ∨ 7 ≤ (l7I).toNatClampNeg then none else (mBN (mJ6_bitCount_0f7a4 F (((V.rI 27 (l7I).toNatClampNeg) &&& l2I))) fun v3 => (mLt (l3I + v3) fun x8 => (if v3 ≤ 0 then (mLt (l7I + (1 : Int32)) fun x10 => (rec 0 (l1I) (l2I) (x8) (l4I) (l5I) (l6I) (x10) V)) else (mLt (l4I + (1 : Int32)) fun x11 => (if ((l6I >>> (l7I &&& 31)) &&& (1 : Int32)) = 0 then (mLt (l7I + (1 : Int32)) fun x13 => (rec 0 (l1I) (l2I) (x8) (x11) (l5I) (l6I) (x13) V)) else (mBN (mX11_hangingTogether F 27 (l7I) (l2I) V) fun v14 => (mLt (l6I &&& (v14 ^^^ (-1 : Int32))) fun x19 => (mLt (l5I + (1 : Int32)) fun x20 => (mLt (l7I + (1 : Int32)) fun x21 => (rec 0 (l1I) (l2I) (x8) (x11) (x20) (x19) (x21) V))))))))))))
def mX2_countWalksDue_go (F : Nat) : Nat → Nat → Int32 → Int32 → Int32 → Int32 → Int32 → Int32 → Int32 → mV → Option Int32
  | 0, _, _, _, _, _, _, _, _, _ => none
  | k' + 1, lab, l1I, l2I, l3I, l4I, l5I, l6I, l7I, V => if lab = 0 then mX2_countWalksDue_b0 F (mX2_countWalksDue_go F k') l1I l2I l3I l4I l5I l6I l7I V else none
def mX2_countWalksDue_s (F : Nat) (rec : Nat → Int32 → Int32 → Int32 → Int32 → Int32 → Int32 → Int32 → mV → Option Int32) (l1I : Int32) (V : mV) : Option Int32 :=
  (mLt (((2 : Int32) <<< (l1I &&& 31)) - (1 : Int32)) fun x22 => (rec 0 (l1I) (x22) ((0 : Int32)) ((0 : Int32)) ((0 : Int32)) (x22) ((0 : Int32)) V))
def mX2_countWalksDue (F : Nat) (l1I : Int32) (V : mV) : Option Int32 := mX2_countWalksDue_s F (mX2_countWalksDue_go F F) l1I V
set_option maxHeartbeats 4000000 in
set_option maxRecDepth 100000 in
theorem LX2_countWalksDue_go {α : Nat → Nat} {F : Nat} {Ln : Nat → Nat} {v : Int32} {Φ : (Int32 → wPS → Prop)} : ∀ k' : Nat, (∀ (l1I : Int32) (l2I : Int32) (l3I : Int32) (l4I : Int32) (l5I : Int32) (l6I : Int32) (l7I : Int32) (S : wPS) (V : mV) , mRel α S Ln V → mX2_countWalksDue_go F k' 0 l1I l2I l3I l4I l5I l6I l7I V = some v → (Φ v S) → rX2_countWalksDue_go F k' 0 (α 3) l1I l2I l3I l4I l5I l6I l7I S Φ) := by
  intro k'
  induction k' with
  | zero => exact (fun _ _ _ _ _ _ _ _ _ _ h _ => by cases h)
  | succ k' ih =>
    intro l1I l2I l3I l4I l5I l6I l7I S V R h k
    rw [mX2_countWalksDue_go, if_pos rfl] at h
    rw [rX2_countWalksDue_go, if_pos rfl]
    unfold mX2_countWalksDue_b0 at h
    unfold rX2_countWalksDue_b0
    refine mIf h Iff.rfl (fun c1 h => ?_) (fun c1 h => ?_)
    · cases h
      exact k
    · refine mGd h (by rw [show S.len (wkAd (gDrawings_near S (α 3))) = 7 from (mg_len (i := 27) R (mA13 rfl) (mg_A (t := 27) R rfl rfl))]) (fun c2 h => ?_)
      obtain ⟨v3, hv3, h⟩ := mBN_some h
      refine LJ6_bitCount_0f7a4 hv3 (by rw [show S.rI (wkAd (gDrawings_near S (α 3))) (l7I).toNatClampNeg = V.rI 27 (l7I).toNatClampNeg from (mg_rI (i := 27) R (mA13 rfl) (mg_A (t := 27) R rfl rfl) rfl)]) ?_
      refine mLet h rfl (fun x8 ex8 h => ?_)
      refine mIf h Iff.rfl (fun c3 h => ?_) (fun c3 h => ?_)
      · refine mLet h rfl (fun x10 ex10 h => ?_)
        exact ih _ _ _ _ _ _ _ _ _ R h k
      · refine mLet h rfl (fun x11 ex11 h => ?_)
        refine mIf h Iff.rfl (fun c4 h => ?_) (fun c4 h => ?_)
        · refine mLet h rfl (fun x13 ex13 h => ?_)
          exact ih _ _ _ _ _ _ _ _ _ R h k
        · obtain ⟨v14, hv14, h⟩ := mBN_some h
          refine LX11_hangingTogether hv14 R rfl (mg_A (t := 27) R rfl rfl) rfl rfl ?_
          refine mLet h rfl (fun x19 ex19 h => ?_)
          refine mLet h rfl (fun x20 ex20 h => ?_)
          refine mLet h rfl (fun x21 ex21 h => ?_)
          exact ih _ _ _ _ _ _ _ _ _ R h k
set_option maxHeartbeats 4000000 in
set_option maxRecDepth 100000 in
theorem LX2_countWalksDue {α : Nat → Nat} {F : Nat} {S : wPS} {Ln : Nat → Nat} {V : mV} {v : Int32} {Φ : (Int32 → wPS → Prop)} {l0Ax : Nat} {l1Ix l1I : Int32} (h : mX2_countWalksDue F l1I V = some v) (R : mRel α S Ln V) (el0A : l0Ax = α 3) (el1I : l1Ix = l1I) (k : (Φ v S)) : rX2_countWalksDue F l0Ax l1Ix S Φ := by
  have el0A := el0A.symm
  subst el0A
  have el1I := el1I.symm
  subst el1I
  have ih := LX2_countWalksDue_go  (α := α) (F := F) (v := v) (Ln := Ln) (Φ := Φ) F
  unfold mX2_countWalksDue mX2_countWalksDue_s at h
  unfold rX2_countWalksDue rX2_countWalksDue_s
  refine mLet h rfl (fun x22 ex22 h => ?_)
  exact ih _ _ _ _ _ _ _ _ _ R h k
end
