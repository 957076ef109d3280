def wvX9_total : List Cond := .code yX9_total cX9_total 4 (some .long) :: (([.fieldLink RX9 13 "Witnessworks$Row" "count" "I", .constantLong RX9 45 (31), .fieldLink RX9 7 "Witnessworks$Row" "numbers" "[I", .constantLong RX9 43 (7)] : List Cond) ++ ((wsX90) ++ ([])))
theorem huX9_total_9 : ∀ w ∈ u_ws RX9 TX9 2, w ∈ wvX9_total := fun w h => List.mem_cons_of_mem _ (List.mem_append_right _ (List.mem_append_left _ h))
theorem gdX9_total : ∀ w ∈ wvX9_total, wkGd w := wkGdC rfl (wkGdA (wkGdL (by decide +kernel)) (wkGdA gdX9 (fun _ h => absurd h List.not_mem_nil)))
def rX9_total_b0 (F : Nat) (rec : Nat → Nat → Int64 → Int32 → wPS → (Int64 → wPS → Prop) → Prop) (l0A : Nat) (l1J : Int64) (l3I : Int32) (S : wPS) (Φ : (Int64 → wPS → Prop)) : Prop :=
  if (gRow_count S l0A) ≤ l3I then (Φ l1J S) else (¬ (l3I < 0 ∨ S.len (wkAd (gRow_numbers S l0A)) ≤ (l3I).toNatClampNeg) ∧ wkLt ((((31 : Int64) * l1J) + (Int32.toInt64 (S.rI (wkAd (gRow_numbers S l0A)) (l3I).toNatClampNeg)))) fun x3 => wkLt (l3I + (1 : Int32)) fun x4 => rec 0 l0A x3 x4 S Φ)
def rX9_total_go (F : Nat) : Nat → Nat → Nat → Int64 → Int32 → wPS → (Int64 → wPS → Prop) → Prop
  | 0, _, _, _, _, _, _ => False
  | k' + 1, lab, l0A, l1J, l3I, S, Φ => if lab = 0 then rX9_total_b0 F (rX9_total_go F k') l0A l1J l3I S Φ else False
def rX9_total_s (F : Nat) (rec : Nat → Nat → Int64 → Int32 → wPS → (Int64 → wPS → Prop) → Prop) (l0A : Nat) (S : wPS) (Φ : (Int64 → wPS → Prop)) : Prop :=
  rec 0 l0A (7 : Int64) (0 : Int32) S Φ
def rX9_total (F : Nat) (l0A : Nat) (S : wPS) (Φ : (Int64 → wPS → Prop)) : Prop := rX9_total_s F (rX9_total_go F F) l0A S Φ
set_option maxHeartbeats 4000000 in
set_option maxRecDepth 100000 in
theorem tX9_total_go {l : Launch} {X : wkX} {d F : Nat} {S0 : wPS} {Φ : (Int64 → wPS → Prop)} (C : wkC X cX9_total RX9 4 wvX9_total) (hR : wkRm X d 0 0) (hd : 0 ≤ d) (E : wkEnd l X cX9_total 4 (some .long) 0 0 (fun v' S'' => ∃ v : Int64, v' = some (.long v) ∧ Φ v S'' ∧ wkWF S'' ∧ wkExt S0 S'')) : ∀ k' : Nat, (∀ (l0A : Nat) (l1J : Int64) (l3I : Int32) (S : wPS), wkWF S → wkExt S0 S → wkIs S l0A 9 → rX9_total_go F k' 0 l0A l1J l3I S Φ → wkGo l X 4 0 0 6 S [some (.ref l0A), some (.long l1J), none, some (.int l3I)] []) := by
  intro k'
  induction k' with
  | zero => exact fun l0A l1J l3I S hW hE hl0A h => h.elim
  | succ k' ih =>
    · intro l0A l1J l3I S hW hE hl0A h
      have h : rX9_total_b0 F (rX9_total_go F k') l0A l1J l3I S Φ := by
        rw [rX9_total_go, if_pos (rfl : (0 : Nat) = 0)] at h
        exact h
      unfold rX9_total_b0 at h
      refine wk_iload_n C dX9_total_6 rfl rfl ?_
      refine wk_aload_n C dX9_total_7 rfl rfl ?_
      refine wk_get C (v := .int (gRow_count S l0A)) huX9_total_9 hl0A.1 (fun cy => wAt_9 cy _ hl0A.2) rfl 1 (by decide) (List.mem_of_getElem? (i := 1) rfl) rfl rfl dX9_total_8 ?_
      refine wk_icmp_ge C (tgt := 34) dX9_total_11 (by decide) (fun c1 => ?_) (fun c1 => ?_)
      · rw [if_pos c1] at h
        refine wk_lload_n C dX9_total_34 rfl rfl ?_
        exact E _ _ _ _ _ _ (Nat.le_refl 0) (Nat.le_refl 0) dX9_total_35 ⟨l1J, rfl, h, hW, hE⟩
      · rw [if_neg c1] at h
        refine wk_ldc2 C (v := 31) (List.mem_of_getElem? (i := 2) rfl) dX9_total_14 ?_
        refine wk_lload_n C dX9_total_17 rfl rfl ?_
        refine wk_lmul C dX9_total_18 rfl ?_
        refine wk_aload_n C dX9_total_19 rfl rfl ?_
        refine wk_get C huX9_total_9 hl0A.1 (fun cy => wAt_9 cy _ hl0A.2) rfl 0 (by decide) (List.mem_of_getElem? (i := 3) rfl) rfl (congrArg some (congrArg va_rf (wf_Row_numbers hW hl0A).1)) dX9_total_20 ?_
        refine wk_iload_n C dX9_total_23 rfl rfl ?_
        obtain ⟨i2, h⟩ := h
        refine wk_iald C (wf_Row_numbers hW hl0A).2.1 (wf_Row_numbers hW hl0A).2.2 i2 rfl dX9_total_24 ?_
        refine wk_i2l C dX9_total_25 rfl ?_
        refine wk_ladd C dX9_total_26 rfl ?_
        obtain ⟨x3, ex3, h⟩ := wkLt_some h
        refine wk_topl ex3 ?_
        refine wk_lstore_n C (lv' := [some (.ref l0A), some (.long x3), none, some (.int l3I)]) dX9_total_27 rfl (by decide) rfl ?_
        obtain ⟨x4, ex4, h⟩ := wkLt_some h
        refine wk_iinc C (lv' := [some (.ref l0A), some (.long x3), none, some (.int x4)]) dX9_total_28 rfl (by rw [ex4]; rfl) (by decide) rfl ?_
        refine wk_goto C (tgt := 6) dX9_total_31 (by decide) ?_
        exact wk_forget (lv' := [some (.ref l0A), some (.long x3), none, some (.int x4)]) (wkLs.le ⟨rfl, rfl, rfl, trivial⟩) (ih _ _ _ _ hW hE hl0A h)
set_option maxHeartbeats 4000000 in
set_option maxRecDepth 100000 in
theorem tX9_total {l : Launch} {g : wkG} {F : Nat}  {S : wPS} {l0A : Nat} {Φ : (Int64 → wPS → Prop)} (hW : wkWF S) (hl0A : wkIs S l0A 9) (h : rX9_total F l0A S Φ) : wkMet l g yX9_total wvX9_total 0 0 0 [.ref l0A] S (fun v' S'' => ∃ v : Int64, v' = some (.long v) ∧ Φ v S'' ∧ wkWF S'' ∧ wkExt S S'') := by
  refine wkMet_of (ret := (some .long)) (by decide) rfl (Nat.le_of_ble_eq_true rfl) (fun X hg C hR E => ?_)
  subst hg
  have hE : wkExt S S := wkExt.rf
  have hd : 0 ≤ 0 := Nat.le_refl _
  show wkGo l X 4 0 0 0 S [some (.ref l0A), none, none, none] []
  have ih := tX9_total_go (F := F) C hR hd E F
  have h : rX9_total_s F (rX9_total_go F F) l0A S Φ := h
  unfold rX9_total_s at h
  refine wk_ldc2 C (v := 7) (List.mem_of_getElem? (i := 4) rfl) dX9_total_0 ?_
  refine wk_lstore_n C (lv' := [some (.ref l0A), some (.long (7 : Int64)), none, none]) dX9_total_3 rfl (by decide) rfl ?_
  refine wk_iconst C (v := 0) dX9_total_4 (by decide) ?_
  refine wk_istore_n C (lv' := [some (.ref l0A), some (.long (7 : Int64)), none, some (.int (0 : Int32))]) dX9_total_5 rfl (by decide) rfl ?_
  exact wk_forget (lv' := [some (.ref l0A), some (.long (7 : Int64)), none, some (.int (0 : Int32))]) (wkLs.le ⟨rfl, rfl, rfl, trivial⟩) (ih _ _ _ _ hW hE hl0A h)
def wvX9_liesWithin : List Cond := .code yX9_liesWithin cX9_liesWithin 5 (some .boolean) :: (([.fieldLink RX9 13 "Witnessworks$Row" "count" "I", .fieldLink RX9 7 "Witnessworks$Row" "numbers" "[I"] : List Cond) ++ ((wsX90) ++ ([])))
theorem huX9_liesWithin_9 : ∀ w ∈ u_ws RX9 TX9 2, w ∈ wvX9_liesWithin := fun w h => List.mem_cons_of_mem _ (List.mem_append_right _ (List.mem_append_left _ h))
theorem gdX9_liesWithin : ∀ w ∈ wvX9_liesWithin, wkGd w := wkGdC rfl (wkGdA (wkGdL (by decide +kernel)) (wkGdA gdX9 (fun _ h => absurd h List.not_mem_nil)))
def rX9_liesWithin_b0 (F : Nat) (rec : Nat → Nat → Int32 → Int32 → Int32 → wPS → (Int32 → wPS → Prop) → Prop) (l0A : Nat) (l2I : Int32) (l3I : Int32) (l4I : Int32) (S : wPS) (Φ : (Int32 → wPS → Prop)) : Prop :=
  if (gRow_count S l0A) ≤ l4I then (Φ (1 : Int32) S) else (¬ (l4I < 0 ∨ S.len (wkAd (gRow_numbers S l0A)) ≤ (l4I).toNatClampNeg) ∧ if (S.rI (wkAd (gRow_numbers S l0A)) (l4I).toNatClampNeg) < l2I then (Φ (0 : Int32) S) else (¬ (l4I < 0 ∨ S.len (wkAd (gRow_numbers S l0A)) ≤ (l4I).toNatClampNeg) ∧ if (S.rI (wkAd (gRow_numbers S l0A)) (l4I).toNatClampNeg) ≤ l3I then (wkLt (l4I + (1 : Int32)) fun x6 => rec 0 l0A l2I l3I x6 S Φ) else (Φ (0 : Int32) S)))
def rX9_liesWithin_go (F : Nat) : Nat → Nat → Nat → Int32 → Int32 → Int32 → wPS → (Int32 → wPS → Prop) → Prop
  | 0, _, _, _, _, _, _, _ => False
  | k' + 1, lab, l0A, l2I, l3I, l4I, S, Φ => if lab = 0 then rX9_liesWithin_b0 F (rX9_liesWithin_go F k') l0A l2I l3I l4I S Φ else False
def rX9_liesWithin_s (F : Nat) (rec : Nat → Nat → Int32 → Int32 → Int32 → wPS → (Int32 → wPS → Prop) → Prop) (l0A : Nat) (l1I : Int32) (l2I : Int32) (l3I : Int32) (S : wPS) (Φ : (Int32 → wPS → Prop)) : Prop :=
  rec 0 l0A l2I l3I l1I S Φ
def rX9_liesWithin (F : Nat) (l0A : Nat) (l1I : Int32) (l2I : Int32) (l3I : Int32) (S : wPS) (Φ : (Int32 → wPS → Prop)) : Prop := rX9_liesWithin_s F (rX9_liesWithin_go F F) l0A l1I l2I l3I S Φ
set_option maxHeartbeats 4000000 in
set_option maxRecDepth 100000 in
theorem tX9_liesWithin_go {l : Launch} {X : wkX} {d F : Nat} {S0 : wPS} {Φ : (Int32 → wPS → Prop)} (C : wkC X cX9_liesWithin RX9 5 wvX9_liesWithin) (hR : wkRm X d 0 0) (hd : 0 ≤ d) (E : wkEnd l X cX9_liesWithin 5 (some .boolean) 0 0 (fun v' S'' => ∃ v : Int32, v' = some (.int v) ∧ Φ v S'' ∧ wkWF S'' ∧ wkExt S0 S'')) : ∀ k' : Nat, (∀ (l0A : Nat) (l2I : Int32) (l3I : Int32) (l4I : Int32) (S : wPS), wkWF S → wkExt S0 S → wkIs S l0A 9 → rX9_liesWithin_go F k' 0 l0A l2I l3I l4I S Φ → wkGo l X 5 0 0 3 S [some (.ref l0A), none, some (.int l2I), some (.int l3I), some (.int l4I)] []) := by
  intro k'
  induction k' with
  | zero => exact fun l0A l2I l3I l4I S hW hE hl0A h => h.elim
  | succ k' ih =>
    · intro l0A l2I l3I l4I S hW hE hl0A h
      have h : rX9_liesWithin_b0 F (rX9_liesWithin_go F k') l0A l2I l3I l4I S Φ := by
        rw [rX9_liesWithin_go, if_pos (rfl : (0 : Nat) = 0)] at h
        exact h
      unfold rX9_liesWithin_b0 at h
      refine wk_iload C dX9_liesWithin_3 rfl ?_
      refine wk_aload_n C dX9_liesWithin_5 rfl rfl ?_
      refine wk_get C (v := .int (gRow_count S l0A)) huX9_liesWithin_9 hl0A.1 (fun cy => wAt_9 cy _ hl0A.2) rfl 1 (by decide) (List.mem_of_getElem? (i := 1) rfl) rfl rfl dX9_liesWithin_6 ?_
      refine wk_icmp_ge C (tgt := 42) dX9_liesWithin_9 (by decide) (fun c1 => ?_) (fun c1 => ?_)
      · rw [if_pos c1] at h
        refine wk_iconst C (v := 1) dX9_liesWithin_42 (by decide) ?_
        exact E _ _ _ _ _ _ (Nat.le_refl 0) (Nat.le_refl 0) dX9_liesWithin_43 rfl ⟨(1 : Int32), rfl, h, hW, hE⟩
      · rw [if_neg c1] at h
        refine wk_aload_n C dX9_liesWithin_12 rfl rfl ?_
        refine wk_get C huX9_liesWithin_9 hl0A.1 (fun cy => wAt_9 cy _ hl0A.2) rfl 0 (by decide) (List.mem_of_getElem? (i := 2) rfl) rfl (congrArg some (congrArg va_rf (wf_Row_numbers hW hl0A).1)) dX9_liesWithin_13 ?_
        refine wk_iload C dX9_liesWithin_16 rfl ?_
        obtain ⟨i2, h⟩ := h
        refine wk_iald C (wf_Row_numbers hW hl0A).2.1 (wf_Row_numbers hW hl0A).2.2 i2 rfl dX9_liesWithin_18 ?_
        refine wk_iload_n C dX9_liesWithin_19 rfl rfl ?_
        refine wk_icmp_lt C (tgt := 34) dX9_liesWithin_20 (by decide) (fun c3 => ?_) (fun c3 => ?_)
        · rw [if_pos c3] at h
          refine wk_iconst C (v := 0) dX9_liesWithin_34 (by decide) ?_
          exact E _ _ _ _ _ _ (Nat.le_refl 0) (Nat.le_refl 0) dX9_liesWithin_35 rfl ⟨(0 : Int32), rfl, h, hW, hE⟩
        · rw [if_neg c3] at h
          refine wk_aload_n C dX9_liesWithin_23 rfl rfl ?_
          refine wk_get C huX9_liesWithin_9 hl0A.1 (fun cy => wAt_9 cy _ hl0A.2) rfl 0 (by decide) (List.mem_of_getElem? (i := 2) rfl) rfl (congrArg some (congrArg va_rf (wf_Row_numbers hW hl0A).1)) dX9_liesWithin_24 ?_
          refine wk_iload C dX9_liesWithin_27 rfl ?_
          obtain ⟨i4, h⟩ := h
          refine wk_iald C (wf_Row_numbers hW hl0A).2.1 (wf_Row_numbers hW hl0A).2.2 i4 rfl dX9_liesWithin_29 ?_
          refine wk_iload_n C dX9_liesWithin_30 rfl rfl ?_
          refine wk_icmp_le C (tgt := 36) dX9_liesWithin_31 (by decide) (fun c5 => ?_) (fun c5 => ?_)
          · rw [if_pos c5] at h
            obtain ⟨x6, ex6, h⟩ := wkLt_some h
            refine wk_iinc C (lv' := [some (.ref l0A), none, some (.int l2I), some (.int l3I), some (.int x6)]) dX9_liesWithin_36 rfl (by rw [ex6]; rfl) (by decide) rfl ?_
            refine wk_goto C (tgt := 3) dX9_liesWithin_39 (by decide) ?_
            exact wk_forget (lv' := [some (.ref l0A), none, some (.int l2I), some (.int l3I), some (.int x6)]) (wkLs.le ⟨rfl, rfl, rfl, rfl, trivial⟩) (ih _ _ _ _ _ hW hE hl0A h)
          · rw [if_neg c5] at h
            refine wk_iconst C (v := 0) dX9_liesWithin_34 (by decide) ?_
            exact E _ _ _ _ _ _ (Nat.le_refl 0) (Nat.le_refl 0) dX9_liesWithin_35 rfl ⟨(0 : Int32), rfl, h, hW, hE⟩
set_option maxHeartbeats 4000000 in
set_option maxRecDepth 100000 in
theorem tX9_liesWithin {l : Launch} {g : wkG} {F : Nat}  {S : wPS} {l0A : Nat} {l1I : Int32} {l2I : Int32} {l3I : Int32} {Φ : (Int32 → wPS → Prop)} (hW : wkWF S) (hl0A : wkIs S l0A 9) (h : rX9_liesWithin F l0A l1I l2I l3I S Φ) : wkMet l g yX9_liesWithin wvX9_liesWithin 0 0 0 [.ref l0A, .int l1I, .int l2I, .int l3I] S (fun v' S'' => ∃ v : Int32, v' = some (.int v) ∧ Φ v S'' ∧ wkWF S'' ∧ wkExt S S'') := by
  refine wkMet_of (ret := (some .boolean)) (by decide) rfl (Nat.le_of_ble_eq_true rfl) (fun X hg C hR E => ?_)
  subst hg
  have hE : wkExt S S := wkExt.rf
  have hd : 0 ≤ 0 := Nat.le_refl _
  show wkGo l X 5 0 0 0 S [some (.ref l0A), some (.int l1I), some (.int l2I), some (.int l3I), none] []
  have ih := tX9_liesWithin_go (F := F) C hR hd E F
  have h : rX9_liesWithin_s F (rX9_liesWithin_go F F) l0A l1I l2I l3I S Φ := h
  unfold rX9_liesWithin_s at h
  refine wk_iload_n C dX9_liesWithin_0 rfl rfl ?_
  refine wk_istore C (lv' := [some (.ref l0A), some (.int l1I), some (.int l2I), some (.int l3I), some (.int l1I)]) dX9_liesWithin_1 (by decide) rfl ?_
  exact wk_forget (lv' := [some (.ref l0A), none, some (.int l2I), some (.int l3I), some (.int l1I)]) (wkLs.le ⟨rfl, rfl, rfl, rfl, trivial⟩) (ih _ _ _ _ _ hW hE hl0A h)
def wvX9_isRising : List Cond := .code yX9_isRising cX9_isRising 3 (some .boolean) :: (([.fieldLink RX9 13 "Witnessworks$Row" "count" "I", .fieldLink RX9 7 "Witnessworks$Row" "numbers" "[I"] : List Cond) ++ ((wsX90) ++ ([])))
theorem huX9_isRising_9 : ∀ w ∈ u_ws RX9 TX9 2, w ∈ wvX9_isRising := fun w h => List.mem_cons_of_mem _ (List.mem_append_right _ (List.mem_append_left _ h))
theorem gdX9_isRising : ∀ w ∈ wvX9_isRising, wkGd w := wkGdC rfl (wkGdA (wkGdL (by decide +kernel)) (wkGdA gdX9 (fun _ h => absurd h List.not_mem_nil)))
def rX9_isRising_b0 (F : Nat) (rec : Nat → Nat → Int32 → wPS → (Int32 → wPS → Prop) → Prop) (l0A : Nat) (l2I : Int32) (S : wPS) (Φ : (Int32 → wPS → Prop)) : Prop :=
  if (gRow_count S l0A) ≤ l2I then (Φ (1 : Int32) S) else (¬ (l2I < 0 ∨ S.len (wkAd (gRow_numbers S l0A)) ≤ (l2I).toNatClampNeg) ∧ ¬ ((l2I - (1 : Int32)) < 0 ∨ S.len (wkAd (gRow_numbers S l0A)) ≤ ((l2I - (1 : Int32))).toNatClampNeg) ∧ if (S.rI (wkAd (gRow_numbers S l0A)) ((l2I - (1 : Int32))).toNatClampNeg) < (S.rI (wkAd (gRow_numbers S l0A)) (l2I).toNatClampNeg) then (wkLt (l2I + (1 : Int32)) fun x5 => rec 0 l0A x5 S Φ) else (Φ (0 : Int32) S))
def rX9_isRising_go (F : Nat) : Nat → Nat → Nat → Int32 → wPS → (Int32 → wPS → Prop) → Prop
  | 0, _, _, _, _, _ => False
  | k' + 1, lab, l0A, l2I, S, Φ => if lab = 0 then rX9_isRising_b0 F (rX9_isRising_go F k') l0A l2I S Φ else False
def rX9_isRising_s (F : Nat) (rec : Nat → Nat → Int32 → wPS → (Int32 → wPS → Prop) → Prop) (l0A : Nat) (l1I : Int32) (S : wPS) (Φ : (Int32 → wPS → Prop)) : Prop :=
  wkLt ((l1I + (1 : Int32))) fun x6 => rec 0 l0A x6 S Φ
def rX9_isRising (F : Nat) (l0A : Nat) (l1I : Int32) (S : wPS) (Φ : (Int32 → wPS → Prop)) : Prop := rX9_isRising_s F (rX9_isRising_go F F) l0A l1I S Φ
set_option maxHeartbeats 4000000 in
set_option maxRecDepth 100000 in
theorem tX9_isRising_go {l : Launch} {X : wkX} {d F : Nat} {S0 : wPS} {Φ : (Int32 → wPS → Prop)} (C : wkC X cX9_isRising RX9 3 wvX9_isRising) (hR : wkRm X d 0 0) (hd : 0 ≤ d) (E : wkEnd l X cX9_isRising 3 (some .boolean) 0 0 (fun v' S'' => ∃ v : Int32, v' = some (.int v) ∧ Φ v S'' ∧ wkWF S'' ∧ wkExt S0 S'')) : ∀ k' : Nat, (∀ (l0A : Nat) (l2I : Int32) (S : wPS), wkWF S → wkExt S0 S → wkIs S l0A 9 → rX9_isRising_go F k' 0 l0A l2I S Φ → wkGo l X 3 0 0 4 S [some (.ref l0A), none, some (.int l2I)] []) := by
  intro k'
  induction k' with
  | zero => exact fun l0A l2I S hW hE hl0A h => h.elim
  | succ k' ih =>
    · intro l0A l2I S hW hE hl0A h
      have h : rX9_isRising_b0 F (rX9_isRising_go F k') l0A l2I S Φ := by
        rw [rX9_isRising_go, if_pos (rfl : (0 : Nat) = 0)] at h
        exact h
      unfold rX9_isRising_b0 at h
      refine wk_iload_n C dX9_isRising_4 rfl rfl ?_
      refine wk_aload_n C dX9_isRising_5 rfl rfl ?_
      refine wk_get C (v := .int (gRow_count S l0A)) huX9_isRising_9 hl0A.1 (fun cy => wAt_9 cy _ hl0A.2) rfl 1 (by decide) (List.mem_of_getElem? (i := 1) rfl) rfl rfl dX9_isRising_6 ?_
      refine wk_icmp_ge C (tgt := 37) dX9_isRising_9 (by decide) (fun c1 => ?_) (fun c1 => ?_)
      · rw [if_pos c1] at h
        refine wk_iconst C (v := 1) dX9_isRising_37 (by decide) ?_
        exact E _ _ _ _ _ _ (Nat.le_refl 0) (Nat.le_refl 0) dX9_isRising_38 rfl ⟨(1 : Int32), rfl, h, hW, hE⟩
      · rw [if_neg c1] at h
        refine wk_aload_n C dX9_isRising_12 rfl rfl ?_
        refine wk_get C huX9_isRising_9 hl0A.1 (fun cy => wAt_9 cy _ hl0A.2) rfl 0 (by decide) (List.mem_of_getElem? (i := 2) rfl) rfl (congrArg some (congrArg va_rf (wf_Row_numbers hW hl0A).1)) dX9_isRising_13 ?_
        refine wk_iload_n C dX9_isRising_16 rfl rfl ?_
        obtain ⟨i2, h⟩ := h
        refine wk_iald C (wf_Row_numbers hW hl0A).2.1 (wf_Row_numbers hW hl0A).2.2 i2 rfl dX9_isRising_17 ?_
        refine wk_aload_n C dX9_isRising_18 rfl rfl ?_
        refine wk_get C huX9_isRising_9 hl0A.1 (fun cy => wAt_9 cy _ hl0A.2) rfl 0 (by decide) (List.mem_of_getElem? (i := 2) rfl) rfl (congrArg some (congrArg va_rf (wf_Row_numbers hW hl0A).1)) dX9_isRising_19 ?_
        refine wk_iload_n C dX9_isRising_22 rfl rfl ?_
        refine wk_iconst C (v := 1) dX9_isRising_23 (by decide) ?_
        refine wk_isub C dX9_isRising_24 rfl ?_
        obtain ⟨i3, h⟩ := h
        refine wk_iald C (wf_Row_numbers hW hl0A).2.1 (wf_Row_numbers hW hl0A).2.2 i3 rfl dX9_isRising_25 ?_
        refine wk_icmp_gt C (tgt := 31) dX9_isRising_26 (by decide) (fun c4 => ?_) (fun c4 => ?_)
        · rw [if_pos c4] at h
          obtain ⟨x5, ex5, h⟩ := wkLt_some h
          refine wk_iinc C (lv' := [some (.ref l0A), none, some (.int x5)]) dX9_isRising_31 rfl (by rw [ex5]; rfl) (by decide) rfl ?_
          refine wk_goto C (tgt := 4) dX9_isRising_34 (by decide) ?_
          exact wk_forget (lv' := [some (.ref l0A), none, some (.int x5)]) (wkLs.le ⟨rfl, rfl, trivial⟩) (ih _ _ _ hW hE hl0A h)
        · rw [if_neg c4] at h
          refine wk_iconst C (v := 0) dX9_isRising_29 (by decide) ?_
          exact E _ _ _ _ _ _ (Nat.le_refl 0) (Nat.le_refl 0) dX9_isRising_30 rfl ⟨(0 : Int32), rfl, h, hW, hE⟩
set_option maxHeartbeats 4000000 in
set_option maxRecDepth 100000 in
theorem tX9_isRising {l : Launch} {g : wkG} {F : Nat}  {S : wPS} {l0A : Nat} {l1I : Int32} {Φ : (Int32 → wPS → Prop)} (hW : wkWF S) (hl0A : wkIs S l0A 9) (h : rX9_isRising F l0A l1I S Φ) : wkMet l g yX9_isRising wvX9_isRising 0 0 0 [.ref l0A, .int l1I] S (fun v' S'' => ∃ v : Int32, v' = some (.int v) ∧ Φ v S'' ∧ wkWF S'' ∧ wkExt S S'') := by
  refine wkMet_of (ret := (some .boolean)) (by decide) rfl (Nat.le_of_ble_eq_true rfl) (fun X hg C hR E => ?_)
  subst hg
  have hE : wkExt S S := wkExt.rf
  have hd : 0 ≤ 0 := Nat.le_refl _
  show wkGo l X 3 0 0 0 S [some (.ref l0A), some (.int l1I), none] []
  have ih := tX9_isRising_go (F := F) C hR hd E F
  have h : rX9_isRising_s F (rX9_isRising_go F F) l0A l1I S Φ := h
  unfold rX9_isRising_s at h
  refine wk_iload_n C dX9_isRising_0 rfl rfl ?_
  refine wk_iconst C (v := 1) dX9_isRising_1 (by decide) ?_
  refine wk_iadd C dX9_isRising_2 rfl ?_
  obtain ⟨x6, ex6, h⟩ := wkLt_some h
  refine wk_topi ex6 ?_
  refine wk_istore_n C (lv' := [some (.ref l0A), some (.int l1I), some (.int x6)]) dX9_isRising_3 rfl (by decide) rfl ?_
  exact wk_forget (lv' := [some (.ref l0A), none, some (.int x6)]) (wkLs.le ⟨rfl, rfl, trivial⟩) (ih _ _ _ hW hE hl0A h)
def wvX9_holds : List Cond := .code yX9_holds cX9_holds 7 (some .boolean) :: (([.fieldLink RX9 7 "Witnessworks$Row" "numbers" "[I", .fieldLink RX9 13 "Witnessworks$Row" "count" "I"] : List Cond) ++ ((wsX90) ++ ([])))
theorem huX9_holds_9 : ∀ w ∈ u_ws RX9 TX9 2, w ∈ wvX9_holds := fun w h => List.mem_cons_of_mem _ (List.mem_append_right _ (List.mem_append_left _ h))
theorem gdX9_holds : ∀ w ∈ wvX9_holds, wkGd w := wkGdC rfl (wkGdA (wkGdL (by decide +kernel)) (wkGdA gdX9 (fun _ h => absurd h List.not_mem_nil)))
def rX9_holds_b0 (F : Nat) (rec : Nat → Nat → Int32 → Int32 → Int32 → Int32 → wPS → (Int32 → wPS → Prop) → Prop) (l0A : Nat) (l2I : Int32) (l3I : Int32) (l4I : Int32) (l5I : Int32) (S : wPS) (Φ : (Int32 → wPS → Prop)) : Prop :=
  if (32 : Int32) ≤ l5I then (Φ (0 : Int32) S) else (if l4I < l3I then (Φ (0 : Int32) S) else (wkLt (((l3I + l4I) / (2 : Int32))) fun x3 => ¬ (x3 < 0 ∨ S.len (wkAd (gRow_numbers S l0A)) ≤ (x3).toNatClampNeg) ∧ if (S.rI (wkAd (gRow_numbers S l0A)) (x3).toNatClampNeg) = l2I then (Φ (1 : Int32) S) else (¬ (x3 < 0 ∨ S.len (wkAd (gRow_numbers S l0A)) ≤ (x3).toNatClampNeg) ∧ if l2I ≤ (S.rI (wkAd (gRow_numbers S l0A)) (x3).toNatClampNeg) then (wkLt ((x3 - (1 : Int32))) fun x8 => wkLt (l5I + (1 : Int32)) fun x9 => rec 0 l0A l2I l3I x8 x9 S Φ) else (wkLt ((x3 + (1 : Int32))) fun x10 => wkLt (l5I + (1 : Int32)) fun x11 => rec 0 l0A l2I x10 l4I x11 S Φ))))
def rX9_holds_go (F : Nat) : Nat → Nat → Nat → Int32 → Int32 → Int32 → Int32 → wPS → (Int32 → wPS → Prop) → Prop
  | 0, _, _, _, _, _, _, _, _ => False
  | k' + 1, lab, l0A, l2I, l3I, l4I, l5I, S, Φ => if lab = 0 then rX9_holds_b0 F (rX9_holds_go F k') l0A l2I l3I l4I l5I S Φ else False
def rX9_holds_s (F : Nat) (rec : Nat → Nat → Int32 → Int32 → Int32 → Int32 → wPS → (Int32 → wPS → Prop) → Prop) (l0A : Nat) (l1I : Int32) (l2I : Int32) (S : wPS) (Φ : (Int32 → wPS → Prop)) : Prop :=
  wkLt (((gRow_count S l0A) - (1 : Int32))) fun x12 => rec 0 l0A l2I l1I x12 (0 : Int32) S Φ
def rX9_holds (F : Nat) (l0A : Nat) (l1I : Int32) (l2I : Int32) (S : wPS) (Φ : (Int32 → wPS → Prop)) : Prop := rX9_holds_s F (rX9_holds_go F F) l0A l1I l2I S Φ
set_option maxHeartbeats 4000000 in
set_option maxRecDepth 100000 in
theorem tX9_holds_go {l : Launch} {X : wkX} {d F : Nat} {S0 : wPS} {Φ : (Int32 → wPS → Prop)} (C : wkC X cX9_holds RX9 7 wvX9_holds) (hR : wkRm X d 0 0) (hd : 0 ≤ d) (E : wkEnd l X cX9_holds 7 (some .boolean) 0 0 (fun v' S'' => ∃ v : Int32, v' = some (.int v) ∧ Φ v S'' ∧ wkWF S'' ∧ wkExt S0 S'')) : ∀ k' : Nat, (∀ (l0A : Nat) (l2I : Int32) (l3I : Int32) (l4I : Int32) (l5I : Int32) (S : wPS), wkWF S → wkExt S0 S → wkIs S l0A 9 → rX9_holds_go F k' 0 l0A l2I l3I l4I l5I S Φ → wkGo l X 7 0 0 13 S [some (.ref l0A), none, some (.int l2I), some (.int l3I), some (.int l4I), some (.int l5I), none] []) := by
  intro k'
  induction k' with
  | zero => exact fun l0A l2I l3I l4I l5I S hW hE hl0A h => h.elim
  | succ k' ih =>
    · intro l0A l2I l3I l4I l5I S hW hE hl0A h
      have h : rX9_holds_b0 F (rX9_holds_go F k') l0A l2I l3I l4I l5I S Φ := by
        rw [rX9_holds_go, if_pos (rfl : (0 : Nat) = 0)] at h
        exact h
      unfold rX9_holds_b0 at h
      refine wk_iload C dX9_holds_13 rfl ?_
      refine wk_bipush C (v := 32) dX9_holds_15 (by decide) ?_
      refine wk_icmp_ge C (tgt := 78) dX9_holds_17 (by decide) (fun c1 => ?_) (fun c1 => ?_)
      · rw [if_pos c1] at h
        refine wk_iconst C (v := 0) dX9_holds_78 (by decide) ?_
        exact E _ _ _ _ _ _ (Nat.le_refl 0) (Nat.le_refl 0) dX9_holds_79 rfl ⟨(0 : Int32), rfl, h, hW, hE⟩
      · rw [if_neg c1] at h
        refine wk_iload_n C dX9_holds_20 rfl rfl ?_
        refine wk_iload C dX9_holds_21 rfl ?_
        refine wk_icmp_gt C (tgt := 78) dX9_holds_23 (by decide) (fun c2 => ?_) (fun c2 => ?_)
        · rw [if_pos c2] at h
          refine wk_iconst C (v := 0) dX9_holds_78 (by decide) ?_
          exact E _ _ _ _ _ _ (Nat.le_refl 0) (Nat.le_refl 0) dX9_holds_79 rfl ⟨(0 : Int32), rfl, h, hW, hE⟩
        · rw [if_neg c2] at h
          refine wk_iload_n C dX9_holds_26 rfl rfl ?_
          refine wk_iload C dX9_holds_27 rfl ?_
          refine wk_iadd C dX9_holds_29 rfl ?_
          refine wk_iconst C (v := 2) dX9_holds_30 (by decide) ?_
          refine wk_idiv C dX9_holds_31 (by decide) rfl ?_
          obtain ⟨x3, ex3, h⟩ := wkLt_some h
          refine wk_topi ex3 ?_
          refine wk_istore C (lv' := [some (.ref l0A), none, some (.int l2I), some (.int l3I), some (.int l4I), some (.int l5I), some (.int x3)]) dX9_holds_32 (by decide) rfl ?_
          refine wk_aload_n C dX9_holds_34 rfl rfl ?_
          refine wk_get C huX9_holds_9 hl0A.1 (fun cy => wAt_9 cy _ hl0A.2) rfl 0 (by decide) (List.mem_of_getElem? (i := 1) rfl) rfl (congrArg some (congrArg va_rf (wf_Row_numbers hW hl0A).1)) dX9_holds_35 ?_
          refine wk_iload C dX9_holds_38 rfl ?_
          obtain ⟨i4, h⟩ := h
          refine wk_iald C (wf_Row_numbers hW hl0A).2.1 (wf_Row_numbers hW hl0A).2.2 i4 rfl dX9_holds_40 ?_
          refine wk_iload_n C dX9_holds_41 rfl rfl ?_
          refine wk_icmp_ne C (tgt := 47) dX9_holds_42 (by decide) (fun c5 => ?_) (fun c5 => ?_)
          · rw [if_neg c5] at h
            refine wk_aload_n C dX9_holds_47 rfl rfl ?_
            refine wk_get C huX9_holds_9 hl0A.1 (fun cy => wAt_9 cy _ hl0A.2) rfl 0 (by decide) (List.mem_of_getElem? (i := 1) rfl) rfl (congrArg some (congrArg va_rf (wf_Row_numbers hW hl0A).1)) dX9_holds_48 ?_
            refine wk_iload C dX9_holds_51 rfl ?_
            obtain ⟨i6, h⟩ := h
            refine wk_iald C (wf_Row_numbers hW hl0A).2.1 (wf_Row_numbers hW hl0A).2.2 i6 rfl dX9_holds_53 ?_
            refine wk_iload_n C dX9_holds_54 rfl rfl ?_
            refine wk_icmp_ge C (tgt := 66) dX9_holds_55 (by decide) (fun c7 => ?_) (fun c7 => ?_)
            · rw [if_pos c7] at h
              refine wk_iload C dX9_holds_66 rfl ?_
              refine wk_iconst C (v := 1) dX9_holds_68 (by decide) ?_
              refine wk_isub C dX9_holds_69 rfl ?_
              obtain ⟨x8, ex8, h⟩ := wkLt_some h
              refine wk_topi ex8 ?_
              refine wk_istore C (lv' := [some (.ref l0A), none, some (.int l2I), some (.int l3I), some (.int x8), some (.int l5I), some (.int x3)]) dX9_holds_70 (by decide) rfl ?_
              obtain ⟨x9, ex9, h⟩ := wkLt_some h
              refine wk_iinc C (lv' := [some (.ref l0A), none, some (.int l2I), some (.int l3I), some (.int x8), some (.int x9), some (.int x3)]) dX9_holds_72 rfl (by rw [ex9]; rfl) (by decide) rfl ?_
              refine wk_goto C (tgt := 13) dX9_holds_75 (by decide) ?_
              exact wk_forget (lv' := [some (.ref l0A), none, some (.int l2I), some (.int l3I), some (.int x8), some (.int x9), none]) (wkLs.le ⟨rfl, rfl, rfl, rfl, rfl, trivial⟩) (ih _ _ _ _ _ _ hW hE hl0A h)
            · rw [if_neg c7] at h
              refine wk_iload C dX9_holds_58 rfl ?_
              refine wk_iconst C (v := 1) dX9_holds_60 (by decide) ?_
              refine wk_iadd C dX9_holds_61 rfl ?_
              obtain ⟨x10, ex10, h⟩ := wkLt_some h
              refine wk_topi ex10 ?_
              refine wk_istore_n C (lv' := [some (.ref l0A), none, some (.int l2I), some (.int x10), some (.int l4I), some (.int l5I), some (.int x3)]) dX9_holds_62 rfl (by decide) rfl ?_
              refine wk_goto C (tgt := 72) dX9_holds_63 (by decide) ?_
              obtain ⟨x11, ex11, h⟩ := wkLt_some h
              refine wk_iinc C (lv' := [some (.ref l0A), none, some (.int l2I), some (.int x10), some (.int l4I), some (.int x11), some (.int x3)]) dX9_holds_72 rfl (by rw [ex11]; rfl) (by decide) rfl ?_
              refine wk_goto C (tgt := 13) dX9_holds_75 (by decide) ?_
              exact wk_forget (lv' := [some (.ref l0A), none, some (.int l2I), some (.int x10), some (.int l4I), some (.int x11), none]) (wkLs.le ⟨rfl, rfl, rfl, rfl, rfl, trivial⟩) (ih _ _ _ _ _ _ hW hE hl0A h)
          · rw [if_pos c5] at h
            refine wk_iconst C (v := 1) dX9_holds_45 (by decide) ?_
            exact E _ _ _ _ _ _ (Nat.le_refl 0) (Nat.le_refl 0) dX9_holds_46 rfl ⟨(1 : Int32), rfl, h, hW, hE⟩
set_option maxHeartbeats 4000000 in
set_option maxRecDepth 100000 in
theorem tX9_holds {l : Launch} {g : wkG} {F : Nat}  {S : wPS} {l0A : Nat} {l1I : Int32} {l2I : Int32} {Φ : (Int32 → wPS → Prop)} (hW : wkWF S) (hl0A : wkIs S l0A 9) (h : rX9_holds F l0A l1I l2I S Φ) : wkMet l g yX9_holds wvX9_holds 0 0 0 [.ref l0A, .int l1I, .int l2I] S (fun v' S'' => ∃ v : Int32, v' = some (.int v) ∧ Φ v S'' ∧ wkWF S'' ∧ wkExt S S'') := by
  refine wkMet_of (ret := (some .boolean)) (by decide) rfl (Nat.le_of_ble_eq_true rfl) (fun X hg C hR E => ?_)
  subst hg
  have hE : wkExt S S := wkExt.rf
  have hd : 0 ≤ 0 := Nat.le_refl _
  show wkGo l X 7 0 0 0 S [some (.ref l0A), some (.int l1I), some (.int l2I), none, none, none, none] []
  have ih := tX9_holds_go (F := F) C hR hd E F
  have h : rX9_holds_s F (rX9_holds_go F F) l0A l1I l2I S Φ := h
  unfold rX9_holds_s at h
  refine wk_iload_n C dX9_holds_0 rfl rfl ?_
  refine wk_istore_n C (lv' := [some (.ref l0A), some (.int l1I), some (.int l2I), some (.int l1I), none, none, none]) dX9_holds_1 rfl (by decide) rfl ?_
  refine wk_aload_n C dX9_holds_2 rfl rfl ?_
  refine wk_get C (v := .int (gRow_count S l0A)) huX9_holds_9 hl0A.1 (fun cy => wAt_9 cy _ hl0A.2) rfl 1 (by decide) (List.mem_of_getElem? (i := 2) rfl) rfl rfl dX9_holds_3 ?_
  refine wk_iconst C (v := 1) dX9_holds_6 (by decide) ?_
  refine wk_isub C dX9_holds_7 rfl ?_
  obtain ⟨x12, ex12, h⟩ := wkLt_some h
  refine wk_topi ex12 ?_
  refine wk_istore C (lv' := [some (.ref l0A), some (.int l1I), some (.int l2I), some (.int l1I), some (.int x12), none, none]) dX9_holds_8 (by decide) rfl ?_
  refine wk_iconst C (v := 0) dX9_holds_10 (by decide) ?_
  refine wk_istore C (lv' := [some (.ref l0A), some (.int l1I), some (.int l2I), some (.int l1I), some (.int x12), some (.int (0 : Int32)), none]) dX9_holds_11 (by decide) rfl ?_
  exact wk_forget (lv' := [some (.ref l0A), none, some (.int l2I), some (.int l1I), some (.int x12), some (.int (0 : Int32)), none]) (wkLs.le ⟨rfl, rfl, rfl, rfl, rfl, trivial⟩) (ih _ _ _ _ _ _ hW hE hl0A h)
def wvX10_loadPoints : List Cond := .code yX10_loadPoints cX10_loadPoints 5 none :: (([.fieldLink RX10 67 "Witnessworks$Entry" "size" "I", .methodLink RX10 91 yX3_at, .instanceMethod yX3_at, .selects RX3 yX3_at yX3_at, .initialized RX3] : List Cond) ++ ((wsX30) ++ (wvX3_at)))
theorem huX10_loadPoints_3 : ∀ w ∈ u_ws RX3 TX3 17, w ∈ wvX10_loadPoints := fun w h => List.mem_cons_of_mem _ (List.mem_append_right _ (List.mem_append_left _ h))
theorem hbX10_loadPoints_X3_at : ∀ w ∈ wvX3_at, w ∈ wvX10_loadPoints := fun w h => List.mem_cons_of_mem _ (List.mem_append_right _ (List.mem_append_right _ h))
theorem gdX10_loadPoints : ∀ w ∈ wvX10_loadPoints, wkGd w := wkGdC rfl (wkGdA (wkGdL (by decide +kernel)) (wkGdA gdX3 gdX3_at))
def rX10_loadPoints_b0 (F : Nat) (rec : Nat → Nat → Int32 → Nat → Int32 → Int32 → wPS → (Unit → wPS → Prop) → Prop) (l0A : Nat) (l1I : Int32) (l2A : Nat) (l3I : Int32) (l4I : Int32) (S : wPS) (Φ : (Unit → wPS → Prop)) : Prop :=
  if (gEntry_size S l0A) ≤ l4I then (if (gEntry_size S l0A) = (6 : Int32) then (¬ ((5 : Int32) < 0 ∨ S.len l2A ≤ ((5 : Int32)).toNatClampNeg) ∧ wkLt (wuI S l2A (5 : Int32) l3I) fun S4 => Φ () S4) else (Φ () S)) else (if (5 : Int32) ≤ l4I then (if (gEntry_size S l0A) = (6 : Int32) then (¬ ((5 : Int32) < 0 ∨ S.len l2A ≤ ((5 : Int32)).toNatClampNeg) ∧ wkLt (wuI S l2A (5 : Int32) l3I) fun S8 => Φ () S8) else (Φ () S)) else (rX3_at F l0A l1I l4I S fun v9 S10 => ¬ (l4I < 0 ∨ S10.len l2A ≤ (l4I).toNatClampNeg) ∧ wkLt (wuI S10 l2A l4I v9) fun S15 => ¬ (l4I < 0 ∨ S15.len l2A ≤ (l4I).toNatClampNeg) ∧ wkLt ((l3I - (S15.rI l2A (l4I).toNatClampNeg))) fun x17 => wkLt (l4I + (1 : Int32)) fun x18 => rec 0 l0A l1I l2A x17 x18 S15 Φ))
def rX10_loadPoints_go (F : Nat) : Nat → Nat → Nat → Int32 → Nat → Int32 → Int32 → wPS → (Unit → wPS → Prop) → Prop
  | 0, _, _, _, _, _, _, _, _ => False
  | k' + 1, lab, l0A, l1I, l2A, l3I, l4I, S, Φ => if lab = 0 then rX10_loadPoints_b0 F (rX10_loadPoints_go F k') l0A l1I l2A l3I l4I S Φ else False
def rX10_loadPoints_s (F : Nat) (rec : Nat → Nat → Int32 → Nat → Int32 → Int32 → wPS → (Unit → wPS → Prop) → Prop) (l0A : Nat) (l1I : Int32) (l2A : Nat) (S : wPS) (Φ : (Unit → wPS → Prop)) : Prop :=
  rec 0 l0A l1I l2A (15 : Int32) (0 : Int32) S Φ
def rX10_loadPoints (F : Nat) (l0A : Nat) (l1I : Int32) (l2A : Nat) (S : wPS) (Φ : (Unit → wPS → Prop)) : Prop := rX10_loadPoints_s F (rX10_loadPoints_go F F) l0A l1I l2A S Φ
set_option maxHeartbeats 4000000 in
set_option maxRecDepth 100000 in
theorem tX10_loadPoints_go {l : Launch} {X : wkX} {d F : Nat} {S0 : wPS} {Φ : (Unit → wPS → Prop)} (C : wkC X cX10_loadPoints RX10 5 wvX10_loadPoints) (hR : wkRm X d 0 0) (hd : 1 ≤ d) (E : wkEnd l X cX10_loadPoints 5 none 0 0 (fun v' S'' => ∃ v : Unit, v' = none ∧ Φ v S'' ∧ wkWF S'' ∧ wkExt S0 S'')) : ∀ k' : Nat, (∀ (l0A : Nat) (l1I : Int32) (l2A : Nat) (l3I : Int32) (l4I : Int32) (S : wPS), wkWF S → wkExt S0 S → wkIs S l0A 3 → wkIs S l2A 13 → rX10_loadPoints_go F k' 0 l0A l1I l2A l3I l4I S Φ → wkGo l X 5 0 0 6 S [some (.ref l0A), some (.int l1I), some (.ref l2A), some (.int l3I), some (.int l4I)] []) := by
  intro k'
  induction k' with
  | zero => exact fun l0A l1I l2A l3I l4I S hW hE hl0A hl2A h => h.elim
  | succ k' ih =>
    · intro l0A l1I l2A l3I l4I S hW hE hl0A hl2A h
      have h : rX10_loadPoints_b0 F (rX10_loadPoints_go F k') l0A l1I l2A l3I l4I S Φ := by
        rw [rX10_loadPoints_go, if_pos (rfl : (0 : Nat) = 0)] at h
        exact h
      unfold rX10_loadPoints_b0 at h
      refine wk_iload C dX10_loadPoints_6 rfl ?_
      refine wk_aload_n C dX10_loadPoints_8 rfl rfl ?_
      refine wk_get C (v := .int (gEntry_size S l0A)) huX10_loadPoints_3 hl0A.1 (fun cy => wAt_3 cy _ hl0A.2) rfl 1 (by decide) (List.mem_of_getElem? (i := 1) rfl) rfl rfl dX10_loadPoints_9 ?_
      refine wk_icmp_ge C (tgt := 45) dX10_loadPoints_12 (by decide) (fun c1 => ?_) (fun c1 => ?_)
      · rw [if_pos c1] at h
        refine wk_aload_n C dX10_loadPoints_45 rfl rfl ?_
        refine wk_get C (v := .int (gEntry_size S l0A)) huX10_loadPoints_3 hl0A.1 (fun cy => wAt_3 cy _ hl0A.2) rfl 1 (by decide) (List.mem_of_getElem? (i := 1) rfl) rfl rfl dX10_loadPoints_46 ?_
        refine wk_bipush C (v := 6) dX10_loadPoints_49 (by decide) ?_
        refine wk_icmp_ne C (tgt := 58) dX10_loadPoints_51 (by decide) (fun c2 => ?_) (fun c2 => ?_)
        · rw [if_neg c2] at h
          exact E _ _ _ _ _ (Nat.le_refl 0) (Nat.le_refl 0) dX10_loadPoints_58 ⟨(), rfl, h, hW, hE⟩
        · rw [if_pos c2] at h
          refine wk_aload_n C dX10_loadPoints_54 rfl rfl ?_
          refine wk_iconst C (v := 5) dX10_loadPoints_55 (by decide) ?_
          refine wk_iload_n C dX10_loadPoints_56 rfl rfl ?_
          obtain ⟨i3, h⟩ := h
          obtain ⟨S4, eS4, h⟩ := wkLt_some h
          refine wk_iast C hl2A.1 hl2A.2 i3 eS4.symm dX10_loadPoints_57 ?_
          have hWS4 : wkWF S4 := by rw [eS4]; exact hW
          have hXS4 : wkExt S S4 := by rw [eS4]; exact wkExt.rf
          exact E _ _ _ _ _ (Nat.le_refl 0) (Nat.le_refl 0) dX10_loadPoints_58 ⟨(), rfl, h, hWS4, (wkExt.tr hE hXS4)⟩
      · rw [if_neg c1] at h
        refine wk_iload C dX10_loadPoints_15 rfl ?_
        refine wk_iconst C (v := 5) dX10_loadPoints_17 (by decide) ?_
        refine wk_icmp_ge C (tgt := 45) dX10_loadPoints_18 (by decide) (fun c5 => ?_) (fun c5 => ?_)
        · rw [if_pos c5] at h
          refine wk_aload_n C dX10_loadPoints_45 rfl rfl ?_
          refine wk_get C (v := .int (gEntry_size S l0A)) huX10_loadPoints_3 hl0A.1 (fun cy => wAt_3 cy _ hl0A.2) rfl 1 (by decide) (List.mem_of_getElem? (i := 1) rfl) rfl rfl dX10_loadPoints_46 ?_
          refine wk_bipush C (v := 6) dX10_loadPoints_49 (by decide) ?_
          refine wk_icmp_ne C (tgt := 58) dX10_loadPoints_51 (by decide) (fun c6 => ?_) (fun c6 => ?_)
          · rw [if_neg c6] at h
            exact E _ _ _ _ _ (Nat.le_refl 0) (Nat.le_refl 0) dX10_loadPoints_58 ⟨(), rfl, h, hW, hE⟩
          · rw [if_pos c6] at h
            refine wk_aload_n C dX10_loadPoints_54 rfl rfl ?_
            refine wk_iconst C (v := 5) dX10_loadPoints_55 (by decide) ?_
            refine wk_iload_n C dX10_loadPoints_56 rfl rfl ?_
            obtain ⟨i7, h⟩ := h
            obtain ⟨S8, eS8, h⟩ := wkLt_some h
            refine wk_iast C hl2A.1 hl2A.2 i7 eS8.symm dX10_loadPoints_57 ?_
            have hWS8 : wkWF S8 := by rw [eS8]; exact hW
            have hXS8 : wkExt S S8 := by rw [eS8]; exact wkExt.rf
            exact E _ _ _ _ _ (Nat.le_refl 0) (Nat.le_refl 0) dX10_loadPoints_58 ⟨(), rfl, h, hWS8, (wkExt.tr hE hXS8)⟩
        · rw [if_neg c5] at h
          refine wk_aload_n C dX10_loadPoints_21 rfl rfl ?_
          refine wk_iload C dX10_loadPoints_22 rfl ?_
          refine wk_aload_n C dX10_loadPoints_24 rfl rfl ?_
          refine wk_iload_n C dX10_loadPoints_25 rfl rfl ?_
          refine wk_iload C dX10_loadPoints_26 rfl ?_
          refine wk_callV C hR (As := [.int l1I, .int l4I]) (cnt := 2) (tX3_at (l := l) hW hl0A h) rfl (wkGoodV (List.mem_of_getElem? (i := 2) rfl) (List.mem_of_getElem? (i := 3) rfl) (List.mem_of_getElem? (i := 4) rfl) (List.mem_of_getElem? (i := 5) rfl) hbX10_loadPoints_X3_at gdX3_at) (Nat.le_trans (by decide : 0 + 1 ≤ 1) hd) (by decide) hl0A.1 (fun cy => wAt_3 cy _ hl0A.2) rfl ⟨by decide, by decide, by decide +kernel⟩ rfl rfl (Nat.le_of_ble_eq_true rfl) (Nat.le_refl 0) (Nat.le_refl 0) dX10_loadPoints_28 (fun v' S10 hp => ?_)
          obtain ⟨v9, rfl, h, hWS10, hXS10⟩ := hp
          obtain ⟨i14, h⟩ := h
          obtain ⟨S15, eS15, h⟩ := wkLt_some h
          refine wk_iast C (hXS10 _ _ hl2A).1 (hXS10 _ _ hl2A).2 i14 eS15.symm dX10_loadPoints_31 ?_
          have hWS15 : wkWF S15 := by rw [eS15]; exact hWS10
          have hXS15 : wkExt S10 S15 := by rw [eS15]; exact wkExt.rf
          refine wk_iload_n C dX10_loadPoints_32 rfl rfl ?_
          refine wk_aload_n C dX10_loadPoints_33 rfl rfl ?_
          refine wk_iload C dX10_loadPoints_34 rfl ?_
          obtain ⟨i16, h⟩ := h
          refine wk_iald C (hXS15 _ _ (hXS10 _ _ hl2A)).1 (hXS15 _ _ (hXS10 _ _ hl2A)).2 i16 rfl dX10_loadPoints_36 ?_
          refine wk_isub C dX10_loadPoints_37 rfl ?_
          obtain ⟨x17, ex17, h⟩ := wkLt_some h
          refine wk_topi ex17 ?_
          refine wk_istore_n C (lv' := [some (.ref l0A), some (.int l1I), some (.ref l2A), some (.int x17), some (.int l4I)]) dX10_loadPoints_38 rfl (by decide) rfl ?_
          obtain ⟨x18, ex18, h⟩ := wkLt_some h
          refine wk_iinc C (lv' := [some (.ref l0A), some (.int l1I), some (.ref l2A), some (.int x17), some (.int x18)]) dX10_loadPoints_39 rfl (by rw [ex18]; rfl) (by decide) rfl ?_
          refine wk_goto C (tgt := 6) dX10_loadPoints_42 (by decide) ?_
          exact wk_forget (lv' := [some (.ref l0A), some (.int l1I), some (.ref l2A), some (.int x17), some (.int x18)]) (wkLs.le ⟨rfl, rfl, rfl, rfl, rfl, trivial⟩) (ih _ _ _ _ _ _ hWS15 (wkExt.tr (wkExt.tr hE hXS10) hXS15) (hXS15 _ _ (hXS10 _ _ hl0A)) (hXS15 _ _ (hXS10 _ _ hl2A)) h)
set_option maxHeartbeats 4000000 in
set_option maxRecDepth 100000 in
theorem tX10_loadPoints {l : Launch} {g : wkG} {F : Nat}  {S : wPS} {l0A : Nat} {l1I : Int32} {l2A : Nat} {Φ : (Unit → wPS → Prop)} (hW : wkWF S) (hl0A : wkIs S l0A 3) (hl2A : wkIs S l2A 13) (h : rX10_loadPoints F l0A l1I l2A S Φ) : wkMet l g yX10_loadPoints wvX10_loadPoints 1 0 0 [.ref l0A, .int l1I, .ref l2A] S (fun v' S'' => ∃ v : Unit, v' = none ∧ Φ v S'' ∧ wkWF S'' ∧ wkExt S S'') := by
  refine wkMet_of (ret := none) (by decide) rfl (Nat.le_of_ble_eq_true rfl) (fun X hg C hR E => ?_)
  subst hg
  have hE : wkExt S S := wkExt.rf
  have hd : 1 ≤ 1 := Nat.le_refl _
  show wkGo l X 5 0 0 0 S [some (.ref l0A), some (.int l1I), some (.ref l2A), none, none] []
  have ih := tX10_loadPoints_go (F := F) C hR hd E F
  have h : rX10_loadPoints_s F (rX10_loadPoints_go F F) l0A l1I l2A S Φ := h
  unfold rX10_loadPoints_s at h
  refine wk_bipush C (v := 15) dX10_loadPoints_0 (by decide) ?_
  refine wk_istore_n C (lv' := [some (.ref l0A), some (.int l1I), some (.ref l2A), some (.int (15 : Int32)), none]) dX10_loadPoints_2 rfl (by decide) rfl ?_
  refine wk_iconst C (v := 0) dX10_loadPoints_3 (by decide) ?_
  refine wk_istore C (lv' := [some (.ref l0A), some (.int l1I), some (.ref l2A), some (.int (15 : Int32)), some (.int (0 : Int32))]) dX10_loadPoints_4 (by decide) rfl ?_
  exact wk_forget (lv' := [some (.ref l0A), some (.int l1I), some (.ref l2A), some (.int (15 : Int32)), some (.int (0 : Int32))]) (wkLs.le ⟨rfl, rfl, rfl, rfl, rfl, trivial⟩) (ih _ _ _ _ _ _ hW hE hl0A hl2A h)
