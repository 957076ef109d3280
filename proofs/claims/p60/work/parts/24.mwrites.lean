/-! THE LAW: limit, writes (they make rows of their own). -/
section
def mL_limit (_G : wkG) (_F : Nat) (Ln : Nat → Nat) (l0I l1I : Int32) (V : mV) : Option (Int32 × (Nat → Nat) × mV) := if l0I = 97 then mPick4 Ln (1) (8) (0) (8) l1I V else if l0I = 98 then mPick4 Ln (1) (7) (0) (7) l1I V else if l0I = 99 then mPick4 Ln (1) (7) (0) (7) l1I V else if l0I = 100 then mPick4 Ln (1) (4) (-40) (81) l1I V else if l0I = 101 then mPick4 Ln (1) (7) (0) (7) l1I V else if l0I = 102 then mPick4 Ln (2) (6) (0) (14) l1I V else if l0I = 103 then mPick4 Ln (2) (5) (0) (5) l1I V else if l0I = 104 then mPick4 Ln (1) (7) (0) (7) l1I V else if l0I = 105 then mPick4 Ln (1) (7) (0) (7) l1I V else if l0I = 106 then mPick4 Ln (1) (7) (0) (7) l1I V else if l0I = 107 then mPick4 Ln (1) (7) (0) (7) l1I V else if l0I = 108 then mPick4 Ln (1) (4) (0) (41) l1I V else if l0I = 109 then mPick4 Ln (1) (9) (0) (10) l1I V else if l0I = 110 then mPick4 Ln (1) (1) (2) (500) l1I V else if l0I = 111 then mPick4 Ln (1) (7) (0) (7) l1I V else if l0I = 112 then mPick4 Ln (1) (7) (0) (12) l1I V else if l0I = 113 then mPick4 Ln (1) (7) (0) (7) l1I V else if l0I = 114 then mPick4 Ln (1) (1) (0) (4) l1I V else if l0I = 115 then mPick4 Ln (1) (6) (0) (7) l1I V else if l0I = 116 then mPick4 Ln (1) (7) (0) (7) l1I V else if l0I = 117 then mPick4 Ln (1) (7) (0) (7) l1I V else if l0I = 118 then mPick4 Ln (1) (7) (0) (7) l1I V else if l0I = 119 then mPick4 Ln (1) (1) (0) (8) l1I V else mPick4 Ln (1) (7) (0) (7) l1I V
theorem ML_limit {G : wkG} {F : Nat} {l0I l1I : Int32} {Ln Ln1 : Nat → Nat} {V V1 : mV} {v : Int32} (h : mL_limit G F Ln l0I l1I V = some (v, Ln1, V1)) : mP Ln1 ≤ mP Ln := by
  unfold mL_limit at h
  rcases mIf_some h with ⟨_, h⟩ | ⟨_, h⟩
  · have := MPick4 h
    omega
  rcases mIf_some h with ⟨_, h⟩ | ⟨_, h⟩
  · have := MPick4 h
    omega
  rcases mIf_some h with ⟨_, h⟩ | ⟨_, h⟩
  · have := MPick4 h
    omega
  rcases mIf_some h with ⟨_, h⟩ | ⟨_, h⟩
  · have := MPick4 h
    omega
  rcases mIf_some h with ⟨_, h⟩ | ⟨_, h⟩
  · have := MPick4 h
    omega
  rcases mIf_some h with ⟨_, h⟩ | ⟨_, h⟩
  · have := MPick4 h
    omega
  rcases mIf_some h with ⟨_, h⟩ | ⟨_, h⟩
  · have := MPick4 h
    omega
  rcases mIf_some h with ⟨_, h⟩ | ⟨_, h⟩
  · have := MPick4 h
    omega
  rcases mIf_some h with ⟨_, h⟩ | ⟨_, h⟩
  · have := MPick4 h
    omega
  rcases mIf_some h with ⟨_, h⟩ | ⟨_, h⟩
  · have := MPick4 h
    omega
  rcases mIf_some h with ⟨_, h⟩ | ⟨_, h⟩
  · have := MPick4 h
    omega
  rcases mIf_some h with ⟨_, h⟩ | ⟨_, h⟩
  · have := MPick4 h
    omega
  rcases mIf_some h with ⟨_, h⟩ | ⟨_, h⟩
  · have := MPick4 h
    omega
  rcases mIf_some h with ⟨_, h⟩ | ⟨_, h⟩
  · have := MPick4 h
    omega
  rcases mIf_some h with ⟨_, h⟩ | ⟨_, h⟩
  · have := MPick4 h
    omega
  rcases mIf_some h with ⟨_, h⟩ | ⟨_, h⟩
  · have := MPick4 h
    omega
  rcases mIf_some h with ⟨_, h⟩ | ⟨_, h⟩
  · have := MPick4 h
    omega
  rcases mIf_some h with ⟨_, h⟩ | ⟨_, h⟩
  · have := MPick4 h
    omega
  rcases mIf_some h with ⟨_, h⟩ | ⟨_, h⟩
  · have := MPick4 h
    omega
  rcases mIf_some h with ⟨_, h⟩ | ⟨_, h⟩
  · have := MPick4 h
    omega
  rcases mIf_some h with ⟨_, h⟩ | ⟨_, h⟩
  · have := MPick4 h
    omega
  rcases mIf_some h with ⟨_, h⟩ | ⟨_, h⟩
  · have := MPick4 h
    omega
  rcases mIf_some h with ⟨_, h⟩ | ⟨_, h⟩
  · have := MPick4 h
    omega
  have := MPick4 h
  omega
theorem LL_limit {G : wkG} {α : Nat → Nat} {F : Nat} {S : wPS} {Ln Ln1 : Nat → Nat} {V V1 : mV} {v : Int32} {Φ : (Int32 → wPS → Prop)} {l0Ix l0I : Int32} {l1Ix l1I : Int32} {k0 n0 : Nat} (h : mL_limit G F Ln l0I l1I V = some (v, Ln1, V1)) (R : mRel α S Ln V) (el0I : l0Ix = l0I) (el1I : l1Ix = l1I) (hk : (mP Ln - mP Ln1) / 16 ≤ k0) (hn : mP Ln - mP Ln1 ≤ n0) (k : ∀ S1, mRel α S1 Ln1 V1 → mFr α S S1 → Φ v S1) : rL_limit G F k0 n0 l0Ix l1Ix S Φ := by
  have el0I := el0I.symm
  subst el0I
  have el1I := el1I.symm
  subst el1I
  unfold mL_limit at h
  unfold rL_limit
  refine mIf h Iff.rfl (fun _ h => ?_) (fun _ h => ?_)
  · show rPick4 G F k0 n0 (1) (8) (0) (8) l1I S Φ
    exact LPick4 h R hk hn k
  refine mIf h Iff.rfl (fun _ h => ?_) (fun _ h => ?_)
  · show rPick4 G F k0 n0 (1) (7) (0) (7) l1I S Φ
    exact LPick4 h R hk hn k
  refine mIf h Iff.rfl (fun _ h => ?_) (fun _ h => ?_)
  · show rPick4 G F k0 n0 (1) (7) (0) (7) l1I S Φ
    exact LPick4 h R hk hn k
  refine mIf h Iff.rfl (fun _ h => ?_) (fun _ h => ?_)
  · show rPick4 G F k0 n0 (1) (4) (-40) (81) l1I S Φ
    exact LPick4 h R hk hn k
  refine mIf h Iff.rfl (fun _ h => ?_) (fun _ h => ?_)
  · show rPick4 G F k0 n0 (1) (7) (0) (7) l1I S Φ
    exact LPick4 h R hk hn k
  refine mIf h Iff.rfl (fun _ h => ?_) (fun _ h => ?_)
  · show rPick4 G F k0 n0 (2) (6) (0) (14) l1I S Φ
    exact LPick4 h R hk hn k
  refine mIf h Iff.rfl (fun _ h => ?_) (fun _ h => ?_)
  · show rPick4 G F k0 n0 (2) (5) (0) (5) l1I S Φ
    exact LPick4 h R hk hn k
  refine mIf h Iff.rfl (fun _ h => ?_) (fun _ h => ?_)
  · show rPick4 G F k0 n0 (1) (7) (0) (7) l1I S Φ
    exact LPick4 h R hk hn k
  refine mIf h Iff.rfl (fun _ h => ?_) (fun _ h => ?_)
  · show rPick4 G F k0 n0 (1) (7) (0) (7) l1I S Φ
    exact LPick4 h R hk hn k
  refine mIf h Iff.rfl (fun _ h => ?_) (fun _ h => ?_)
  · show rPick4 G F k0 n0 (1) (7) (0) (7) l1I S Φ
    exact LPick4 h R hk hn k
  refine mIf h Iff.rfl (fun _ h => ?_) (fun _ h => ?_)
  · show rPick4 G F k0 n0 (1) (7) (0) (7) l1I S Φ
    exact LPick4 h R hk hn k
  refine mIf h Iff.rfl (fun _ h => ?_) (fun _ h => ?_)
  · show rPick4 G F k0 n0 (1) (4) (0) (41) l1I S Φ
    exact LPick4 h R hk hn k
  refine mIf h Iff.rfl (fun _ h => ?_) (fun _ h => ?_)
  · show rPick4 G F k0 n0 (1) (9) (0) (10) l1I S Φ
    exact LPick4 h R hk hn k
  refine mIf h Iff.rfl (fun _ h => ?_) (fun _ h => ?_)
  · show rPick4 G F k0 n0 (1) (1) (2) (500) l1I S Φ
    exact LPick4 h R hk hn k
  refine mIf h Iff.rfl (fun _ h => ?_) (fun _ h => ?_)
  · show rPick4 G F k0 n0 (1) (7) (0) (7) l1I S Φ
    exact LPick4 h R hk hn k
  refine mIf h Iff.rfl (fun _ h => ?_) (fun _ h => ?_)
  · show rPick4 G F k0 n0 (1) (7) (0) (12) l1I S Φ
    exact LPick4 h R hk hn k
  refine mIf h Iff.rfl (fun _ h => ?_) (fun _ h => ?_)
  · show rPick4 G F k0 n0 (1) (7) (0) (7) l1I S Φ
    exact LPick4 h R hk hn k
  refine mIf h Iff.rfl (fun _ h => ?_) (fun _ h => ?_)
  · show rPick4 G F k0 n0 (1) (1) (0) (4) l1I S Φ
    exact LPick4 h R hk hn k
  refine mIf h Iff.rfl (fun _ h => ?_) (fun _ h => ?_)
  · show rPick4 G F k0 n0 (1) (6) (0) (7) l1I S Φ
    exact LPick4 h R hk hn k
  refine mIf h Iff.rfl (fun _ h => ?_) (fun _ h => ?_)
  · show rPick4 G F k0 n0 (1) (7) (0) (7) l1I S Φ
    exact LPick4 h R hk hn k
  refine mIf h Iff.rfl (fun _ h => ?_) (fun _ h => ?_)
  · show rPick4 G F k0 n0 (1) (7) (0) (7) l1I S Φ
    exact LPick4 h R hk hn k
  refine mIf h Iff.rfl (fun _ h => ?_) (fun _ h => ?_)
  · show rPick4 G F k0 n0 (1) (7) (0) (7) l1I S Φ
    exact LPick4 h R hk hn k
  refine mIf h Iff.rfl (fun _ h => ?_) (fun _ h => ?_)
  · show rPick4 G F k0 n0 (1) (1) (0) (8) l1I S Φ
    exact LPick4 h R hk hn k
  show rPick4 G F k0 n0 (1) (7) (0) (7) l1I S Φ
  exact LPick4 h R hk hn k
theorem wkLt_at {α : Type} {v x : α} {f : α → Prop} (e : x = v) (k : f x) : wkLt v f := by
  subst e
  exact k
abbrev mWr : Type := Nat → (Nat → Nat) → Int32 → Int32 → Int32 → Int32 → Int32 → (Nat → Int32) → Int32 → mV → Option (Int64 × (Nat → Nat) × mV)
def mL_writes_b0 (G : wkG) (F : Nat) (rec : mWr) (Ln : Nat → Nat) (l1I l2I l4I l5I l6I : Int32) (t : Nat → Int32) (l8I : Int32) (V : mV) : Option (Int64 × (Nat → Nat) × mV) :=
  if (6 : Int32) ≤ l8I then rec 1 Ln l1I l2I l4I l5I l6I t (0 : Int32) V else if l5I = (103 : Int32) then (if l8I < 0 ∨ 6 ≤ (l8I).toNatClampNeg then none else mLt (l8I + (1 : Int32)) fun x13 => rec 0 Ln l1I l2I l4I l5I l6I (upd t (l8I).toNatClampNeg l8I) x13 V) else mBN (mL_part G F l5I l6I l8I (l4I + l8I)) fun v3 => if l8I < 0 ∨ 6 ≤ (l8I).toNatClampNeg then none else mLt (l8I + (1 : Int32)) fun x10 => rec 0 Ln l1I l2I l4I l5I l6I (upd t (l8I).toNatClampNeg v3) x10 V
def mL_writes_b1 (G : wkG) (F : Nat) (rec : mWr) (Ln : Nat → Nat) (l1I l2I l4I l5I l6I : Int32) (t : Nat → Int32) (l8I : Int32) (V : mV) : Option (Int64 × (Nat → Nat) × mV) :=
  if l5I = (103 : Int32) then (if l6I ≤ l8I then rec 2 Ln l1I l2I 0 0 0 t 0 V else mBN (mL_drawn G F (l4I + l8I) (l6I - l8I)) fun v16 => mLt (l8I + v16) fun x21 => if l8I < 0 ∨ 6 ≤ (l8I).toNatClampNeg then none else mLt (t (l8I).toNatClampNeg) fun x23 => if x21 < 0 ∨ 6 ≤ (x21).toNatClampNeg then none else mLt (l8I + (1 : Int32)) fun x29 => rec 1 Ln l1I l2I l4I l5I l6I (upd (upd t (l8I).toNatClampNeg (t (x21).toNatClampNeg)) (x21).toNatClampNeg x23) x29 V) else rec 2 Ln l1I l2I 0 0 0 t 0 V
def mL_writes_b2 (G : wkG) (F : Nat) (Ln : Nat → Nat) (l1I l2I : Int32) (t : Nat → Int32) (V : mV) : Option (Int64 × (Nat → Nat) × mV) :=
  if 0 ≤ l2I then mL_change G F Ln l1I l2I (t 0) (t 1) (t 2) (t 3) (t 4) V else mL_put G F Ln l1I (t 0) (t 1) (t 2) (t 3) (t 4) V
def mL_writes_go (G : wkG) (F : Nat) : Nat → mWr
  | 0, _, _, _, _, _, _, _, _, _, _ => none
  | k' + 1, lab, Ln, l1I, l2I, l4I, l5I, l6I, t, l8I, V => if lab = 0 then mL_writes_b0 G F (mL_writes_go G F k') Ln l1I l2I l4I l5I l6I t l8I V else if lab = 1 then mL_writes_b1 G F (mL_writes_go G F k') Ln l1I l2I l4I l5I l6I t l8I V else if lab = 2 then mL_writes_b2 G F Ln l1I l2I t V else none
def mL_writes (G : wkG) (F : Nat) (Ln : Nat → Nat) (l1I l2I l4I : Int32) (V : mV) : Option (Int64 × (Nat → Nat) × mV) :=
  mBA (mL_kindOf G F Ln l1I V) fun v51 L52 V52 => mLt (((Int32.toUInt32 (Int64.toInt32 v51)) % 65536).toInt32) fun x56 => mBA (mL_sizeOf G F L52 l1I V52) fun v57 L58 V58 => mLt (Int64.toInt32 v57) fun x62 => if ¬ L58 3000 < 5000 then none else mL_writes_go G F F 0 (va_up L58 3000 (L58 3000 + 1)) l1I l2I l4I x56 x62 (fun _ => 0) (0 : Int32) V58
theorem ML_writes_go {G : wkG} {F : Nat} {v : Int64} {Ln1 : Nat → Nat} {V1 : mV} : ∀ (k' lab : Nat) (Ln : Nat → Nat) (l1I l2I l4I l5I l6I : Int32) (t : Nat → Int32) (l8I : Int32) (V : mV), mL_writes_go G F k' lab Ln l1I l2I l4I l5I l6I t l8I V = some (v, Ln1, V1) → mP Ln1 ≤ mP Ln := by
  intro k'
  induction k' with
  | zero =>
    intro lab Ln l1I l2I l4I l5I l6I t l8I V h
    cases h
  | succ k' ih =>
    intro lab Ln l1I l2I l4I l5I l6I t l8I V h
    rw [mL_writes_go] at h
    rcases mIf_some h with ⟨_, h⟩ | ⟨_, h⟩
    · unfold mL_writes_b0 at h
      rcases mIf_some h with ⟨_, h⟩ | ⟨_, h⟩
      · exact ih _ _ _ _ _ _ _ _ _ _ h
      · rcases mIf_some h with ⟨_, h⟩ | ⟨_, h⟩
        · obtain ⟨_, h⟩ := mGd_some h
          obtain ⟨_, _, h⟩ := mLt_some h
          exact ih _ _ _ _ _ _ _ _ _ _ h
        · obtain ⟨_, _, h⟩ := mBN_some h
          obtain ⟨_, h⟩ := mGd_some h
          obtain ⟨_, _, h⟩ := mLt_some h
          exact ih _ _ _ _ _ _ _ _ _ _ h
    · rcases mIf_some h with ⟨_, h⟩ | ⟨_, h⟩
      · unfold mL_writes_b1 at h
        rcases mIf_some h with ⟨_, h⟩ | ⟨_, h⟩
        · rcases mIf_some h with ⟨_, h⟩ | ⟨_, h⟩
          · exact ih _ _ _ _ _ _ _ _ _ _ h
          · obtain ⟨_, _, h⟩ := mBN_some h
            obtain ⟨_, _, h⟩ := mLt_some h
            obtain ⟨_, h⟩ := mGd_some h
            obtain ⟨_, _, h⟩ := mLt_some h
            obtain ⟨_, h⟩ := mGd_some h
            obtain ⟨_, _, h⟩ := mLt_some h
            exact ih _ _ _ _ _ _ _ _ _ _ h
        · exact ih _ _ _ _ _ _ _ _ _ _ h
      · rcases mIf_some h with ⟨_, h⟩ | ⟨_, h⟩
        · unfold mL_writes_b2 at h
          rcases mIf_some h with ⟨_, h⟩ | ⟨_, h⟩
          · exact ML_change h
          · exact ML_put h
        · cases h
theorem ML_writes {G : wkG} {F : Nat} {l1I l2I l4I : Int32} {Ln Ln1 : Nat → Nat} {V V1 : mV} {v : Int64} (h : mL_writes G F Ln l1I l2I l4I V = some (v, Ln1, V1)) : mP Ln1 ≤ mP Ln := by
  unfold mL_writes at h
  obtain ⟨_, _, _, z1, h⟩ := mBA_some h
  obtain ⟨_, _, h⟩ := mLt_some h
  obtain ⟨_, _, _, z2, h⟩ := mBA_some h
  obtain ⟨_, _, h⟩ := mLt_some h
  obtain ⟨c, h⟩ := mGd_some h
  have a1 := ML_kindOf z1
  have a2 := ML_sizeOf z2
  have a3 := ML_writes_go _ _ _ _ _ _ _ _ _ _ _ h
  have a4 := mP_th (Decidable.not_not.mp c)
  omega
set_option maxHeartbeats 4000000 in
theorem LL_writes_go {G : wkG} {α : Nat → Nat} {k0 n0 F : Nat} {S0 : wPS} {v : Int64} {Ln1 : Nat → Nat} {V1 : mV} {Φ : (Int64 → wPS → Prop)} {q : Nat} (hq : ¬ q ∈ S0.L) (k : ∀ S1, mRel α S1 Ln1 V1 → mFr α S0 S1 → Φ v S1) : ∀ k' : Nat, (∀ (l1I l2I l4I l5I l6I l8I : Int32) (t : Nat → Int32) (S : wPS) (V : mV) (Ln : Nat → Nat) (c s : Nat), mRel α S Ln V → mFr α S0 S → mLoc α S q 6 t → mL_writes_go G F k' 0 Ln l1I l2I l4I l5I l6I t l8I V = some (v, Ln1, V1) → c + (mP Ln - mP Ln1) / 16 ≤ k0 → s + (mP Ln - mP Ln1) ≤ n0 → rL_writes_go G F k0 n0 k' 0 c s (α 0) l1I l2I l4I l5I l6I q l8I S Φ) ∧ (∀ (l1I l2I l4I l5I l6I l8I : Int32) (t : Nat → Int32) (S : wPS) (V : mV) (Ln : Nat → Nat) (c s : Nat), mRel α S Ln V → mFr α S0 S → mLoc α S q 6 t → mL_writes_go G F k' 1 Ln l1I l2I l4I l5I l6I t l8I V = some (v, Ln1, V1) → c + (mP Ln - mP Ln1) / 16 ≤ k0 → s + (mP Ln - mP Ln1) ≤ n0 → rL_writes_go G F k0 n0 k' 1 c s (α 0) l1I l2I l4I l5I l6I q l8I S Φ) ∧ (∀ (l1I l2I : Int32) (t : Nat → Int32) (S : wPS) (V : mV) (Ln : Nat → Nat) (c s : Nat), mRel α S Ln V → mFr α S0 S → mLoc α S q 6 t → mL_writes_go G F k' 2 Ln l1I l2I 0 0 0 t 0 V = some (v, Ln1, V1) → c + (mP Ln - mP Ln1) / 16 ≤ k0 → s + (mP Ln - mP Ln1) ≤ n0 → rL_writes_go G F k0 n0 k' 2 c s (α 0) l1I l2I 0 0 0 q 0 S Φ) := by
  intro k'
  induction k' with
  | zero => exact ⟨(fun _ _ _ _ _ _ _ _ _ _ _ _ _ _ _ h _ _ => by cases h), (fun _ _ _ _ _ _ _ _ _ _ _ _ _ _ _ h _ _ => by cases h), (fun _ _ _ _ _ _ _ _ _ _ _ h _ _ => by cases h)⟩
  | succ k' ih =>
    refine ⟨?_, ?_, ?_⟩
    · intro l1I l2I l4I l5I l6I l8I t S V Ln c s R F0 J h hk hn
      rw [mL_writes_go, if_pos rfl] at h
      rw [rL_writes_go, if_pos rfl]
      unfold mL_writes_b0 at h
      unfold rL_writes_b0
      refine mIf h Iff.rfl (fun c1 h => ?_) (fun c1 h => ?_)
      · exact ih.2.1 _ _ _ _ _ _ _ _ _ _ _ _ R F0 J h hk hn
      · refine mIf h Iff.rfl (fun c2 h => ?_) (fun c2 h => ?_)
        · refine mGd h (by rw [J.2.2.2.1]) (fun c3 h => ?_)
          refine J.up R F0 hq (fun S12 R12 F12 J12 => ?_)
          refine mLet h rfl (fun x13 ex13 h => ?_)
          exact ih.1 _ _ _ _ _ _ _ _ _ _ _ _ R12 F12 J12 h hk hn
        · obtain ⟨v3, hv3, h⟩ := mBN_some h
          refine LL_part hv3 rfl rfl rfl rfl ?_
          refine mGd h (by rw [J.2.2.2.1]) (fun c3 h => ?_)
          refine J.up R F0 hq (fun S12 R12 F12 J12 => ?_)
          refine mLet h rfl (fun x13 ex13 h => ?_)
          exact ih.1 _ _ _ _ _ _ _ _ _ _ _ _ R12 F12 J12 h hk hn
    · intro l1I l2I l4I l5I l6I l8I t S V Ln c s R F0 J h hk hn
      rw [mL_writes_go, if_neg (by decide), if_pos rfl] at h
      rw [rL_writes_go, if_neg (by decide), if_pos rfl]
      unfold mL_writes_b1 at h
      unfold rL_writes_b1
      refine mIf h Iff.rfl (fun c1 h => ?_) (fun c1 h => ?_)
      · refine mIf h Iff.rfl (fun c2 h => ?_) (fun c2 h => ?_)
        · exact ih.2.2 _ _ _ _ _ _ _ _ R F0 J h hk hn
        · obtain ⟨v16, hv16, h⟩ := mBN_some h
          refine LL_drawn hv16 rfl rfl ?_
          refine mLet h rfl (fun x21 ex21 h => ?_)
          obtain ⟨c3, h⟩ := mGd_some h
          obtain ⟨x23, ex23, h⟩ := mLt_some h
          obtain ⟨c4, h⟩ := mGd_some h
          obtain ⟨x29, ex29, h⟩ := mLt_some h
          refine ⟨by rw [J.2.2.2.1]; exact c3, ?_⟩
          rw [J.2.2.2.2]
          refine wkLt_at ex23 ?_
          refine ⟨by rw [J.2.2.2.1]; exact c4, by rw [J.2.2.2.1]; exact c3, ?_⟩
          refine J.up R F0 hq (fun S26 R26 F26 J26 => ?_)
          refine ⟨by rw [J26.2.2.2.1]; exact c4, ?_⟩
          refine J26.up R26 F26 hq (fun S28 R28 F28 J28 => ?_)
          refine wkLt_at ex29 ?_
          exact ih.2.1 _ _ _ _ _ _ _ _ _ _ _ _ R28 F28 J28 h hk hn
      · exact ih.2.2 _ _ _ _ _ _ _ _ R F0 J h hk hn
    · intro l1I l2I t S V Ln c s R F0 J h hk hn
      rw [mL_writes_go, if_neg (by decide), if_neg (by decide), if_pos rfl] at h
      rw [rL_writes_go, if_neg (by decide), if_neg (by decide), if_pos rfl]
      unfold mL_writes_b2 at h
      unfold rL_writes_b2
      have e0 : ((0 : Int32)).toNatClampNeg = 0 := by decide
      have e1 : ((1 : Int32)).toNatClampNeg = 1 := by decide
      have e2 : ((2 : Int32)).toNatClampNeg = 2 := by decide
      have e3 : ((3 : Int32)).toNatClampNeg = 3 := by decide
      have e4 : ((4 : Int32)).toNatClampNeg = 4 := by decide
      rw [J.2.2.2.1, J.2.2.2.2, e0, e1, e2, e3, e4]
      refine mIf h Iff.rfl (fun c1 h => ?_) (fun c1 h => ?_)
      · refine ⟨by decide, by decide, by decide, by decide, by decide, (mP Ln - mP Ln1) / 16, mP Ln - mP Ln1, by omega, by omega, ?_⟩
        exact LL_change h R rfl rfl rfl rfl rfl rfl rfl rfl (by omega) (by omega) (fun S1 R1 F1 => k S1 R1 (F0.tr F1))
      · refine ⟨by decide, by decide, by decide, by decide, by decide, (mP Ln - mP Ln1) / 16, mP Ln - mP Ln1, by omega, by omega, ?_⟩
        exact LL_put h R rfl rfl rfl rfl rfl rfl rfl (by omega) (by omega) (fun S1 R1 F1 => k S1 R1 (F0.tr F1))
theorem LL_writes {G : wkG} {α : Nat → Nat} {F : Nat} {S : wPS} {Ln Ln1 : Nat → Nat} {V V1 : mV} {v : Int64} {Φ : (Int64 → wPS → Prop)} {l0Ax : Nat} {l1Ix l1I : Int32} {l2Ix l2I : Int32} {l4Ix l4I : Int32} {k0 n0 : Nat} (h : mL_writes G F Ln l1I l2I l4I V = some (v, Ln1, V1)) (R : mRel α S Ln V) (el0A : l0Ax = α 0) (el1I : l1Ix = l1I) (el2I : l2Ix = l2I) (el4I : l4Ix = l4I) (hk : (mP Ln - mP Ln1) / 16 ≤ k0) (hn : mP Ln - mP Ln1 ≤ n0) (k : ∀ S1, mRel α S1 Ln1 V1 → mFr α S S1 → Φ v S1) : rL_writes G F k0 n0 l0Ax l1Ix l2Ix l4Ix S Φ := by
  have el0A := el0A.symm
  subst el0A
  have el1I := el1I.symm
  subst el1I
  have el2I := el2I.symm
  subst el2I
  have el4I := el4I.symm
  subst el4I
  unfold mL_writes at h
  unfold rL_writes rL_writes_s
  obtain ⟨v51, L52, V52, hv51, h⟩ := mBA_some h
  have a1 := ML_kindOf hv51
  obtain ⟨x56, ex56, h⟩ := mLt_some h
  obtain ⟨v57, L58, V58, hv57, h⟩ := mBA_some h
  have a2 := ML_sizeOf hv57
  obtain ⟨x62, ex62, h⟩ := mLt_some h
  obtain ⟨c1, h⟩ := mGd_some h
  have a3 := ML_writes_go _ _ _ _ _ _ _ _ _ _ _ h
  have a4 := mP_th (Decidable.not_not.mp c1)
  refine ⟨(mP Ln - mP L52) / 16, mP Ln - mP L52, by omega, by omega, ?_⟩
  refine LL_kindOf hv51 R rfl rfl (by omega) (by omega) (fun S52 R52 F52 => ?_)
  refine wkLt_at ex56 ?_
  refine ⟨(mP L52 - mP L58) / 16, mP L52 - mP L58, by omega, by omega, ?_⟩
  refine LL_sizeOf hv57 R52 rfl rfl (by omega) (by omega) (fun S58 R58 F58 => ?_)
  refine wkLt_at ex62 ?_
  have six : ((6 : Int32)).toNatClampNeg = 6 := by decide
  rw [six]
  refine ⟨by decide, by omega, by omega, by decide, fun q hq => ?_⟩
  have G0 := F52.tr F58
  have hq0 : ¬ q ∈ S.L := fun z => hq (G0.1 q z)
  refine mLoc.new R58 hq (fun S65 R65 F65 J65 => ?_)
  have R66 : mRel α S65 (va_up L58 3000 (L58 3000 + 1)) V58 := mRel_th R65
  generalize va_up L58 3000 (L58 3000 + 1) = Lx at h a3 a4 R66
  exact (LL_writes_go hq0 k F).1 _ _ _ _ _ _ _ _ _ _ _ _ R66 (G0.tr F65) J65 h (by omega) (by omega)
end
