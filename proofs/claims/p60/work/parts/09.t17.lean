def wvX9_total : List Cond := .code yX9_total cX9_total 4 (some .long) :: (([.fieldLink RX9 13 "Witnessworks$Row" "count" "I", .constantLong RX9 45 (31), .fieldLink RX9 7 "Witnessworks$Row" "numbers" "[I", .constantLong RX9 43 (7)] : List Cond) ++ ((wsX90) ++ ([])))
theorem huX9_total_9 : ∀ w ∈ u_ws RX9 TX9 2, w ∈ wvX9_total := fun w h => List.mem_cons_of_mem _ (List.mem_append_right _ (List.mem_append_left _ h))
theorem gdX9_total : ∀ w ∈ wvX9_total, wkGd w := wkGdC rfl (wkGdA (wkGdL (by decide +kernel)) (wkGdA gdX9 (fun _ h => absurd h List.not_mem_nil)))
def rX9_total_b0 (F : Nat) (rec : Nat → Nat → Int64 → Int32 → wPS → (Int64 → wPS → Prop) → Prop) (l0A : Nat) (l1J : Int64) (l3I : Int32) (S : wPS) (Φ : (Int64 → wPS → Prop)) : Prop :=
  if (gRow_count S l0A) ≤ l3I then (Φ l1J S) else (¬ (l3I < 0 ∨ S.len (wkAd (gRow_numbers S l0A)) ≤ (l3I).toNatClampNeg) ∧ wkLt ((((31 : Int64) * l1J) + (Int32.toInt64 (S.rI (wkAd (gRow_numbers S l0A)) (l3I).toNatClampNeg)))) fun x3 => wkLt (l3I + (1 : Int32)) fun x4 => rec 0 l0A x3 x4 S Φ)
def rX9_total_go (F : Nat) : Nat → Nat → Nat → Int64 → Int32 → wPS → (Int64 → wPS → Prop) → Prop
  | 0, _, _, _, _, _, _ => False
  | k' + 1, lab, l0A, l1J, l3I, S, Φ => if lab = 0 then rX9_total_b0 F (rX9_total_go F k') l0A l1J l3I S Φ else False
def rX9_total_s (F : Nat) (rec : Nat → Nat → Int64 → Int32 → wPS → (Int64 → wPS → Prop) → Prop) (l0A : Nat) (S : wPS) (Φ : (Int64 → wPS → Prop)) : Prop :=
  rec 0 l0A (7 : Int64) (0 : Int32) S Φ
def rX9_total (F : Nat) (l0A : Nat) (S : wPS) (Φ : (Int64 → wPS → Prop)) : Prop := rX9_total_s F (rX9_total_go F F) l0A S Φ
set_option maxHeartbeats 4000000 in
set_option maxRecDepth 100000 in
theorem tX9_total_go {l : Launch} {X : wkX} {d F : Nat} {S0 : wPS} {Φ : (Int64 → wPS → Prop)} (C : wkC X cX9_total RX9 4 wvX9_total) (hR : wkRm X d 0 0) (hd : 0 ≤ d) (E : wkEnd l X cX9_total 4 (some .long) 0 0 (fun v' S'' => ∃ v : Int64, v' = some (.long v) ∧ Φ v S'' ∧ wkWF S'' ∧ wkExt S0 S'')) : ∀ k' : Nat, (∀ (l0A : Nat) (l1J : Int64) (l3I : Int32) (S : wPS), wkWF S → wkExt S0 S → wkIs S l0A 9 → rX9_total_go F k' 0 l0A l1J l3I S Φ → wkGo l X 4 0 0 6 S [some (.ref l0A), some (.long l1J), none, some (.int l3I)] []) := by
  intro k'
  induction k' with
  | zero => exact fun l0A l1J l3I S hW hE hl0A h => h.elim
  | succ k' ih =>
    · intro l0A l1J l3I S hW hE hl0A h
      have h : rX9_total_b0 F (rX9_total_go F k') l0A l1J l3I S Φ := by
        rw [rX9_total_go, if_pos (rfl : (0 : Nat) = 0)] at h
        exact h
      unfold rX9_total_b0 at h
      refine wk_iload_n C dX9_total_6 rfl rfl ?_
      refine wk_aload_n C dX9_total_7 rfl rfl ?_
      refine wk_get C (v := .int (gRow_count S l0A)) huX9_total_9 hl0A.1 (fun cy => wAt_9 cy _ hl0A.2) rfl 1 (by decide) (List.mem_of_getElem? (i := 1) rfl) rfl rfl dX9_total_8 ?_
      refine wk_icmp_ge C (tgt := 34) dX9_total_11 (by decide) (fun c1 => ?_) (fun c1 => ?_)
      · rw [if_pos c1] at h
        refine wk_lload_n C dX9_total_34 rfl rfl ?_
        exact E _ _ _ _ _ _ (Nat.le_refl 0) (Nat.le_refl 0) dX9_total_35 ⟨l1J, rfl, h, hW, hE⟩
      · rw [if_neg c1] at h
        refine wk_ldc2 C (v := 31) (List.mem_of_getElem? (i := 2) rfl) dX9_total_14 ?_
        refine wk_lload_n C dX9_total_17 rfl rfl ?_
        refine wk_lmul C dX9_total_18 rfl ?_
        refine wk_aload_n C dX9_total_19 rfl rfl ?_
        refine wk_get C huX9_total_9 hl0A.1 (fun cy => wAt_9 cy _ hl0A.2) rfl 0 (by decide) (List.mem_of_getElem? (i := 3) rfl) rfl (congrArg some (congrArg va_rf (wf_Row_numbers hW hl0A).1)) dX9_total_20 ?_
        refine wk_iload_n C dX9_total_23 rfl rfl ?_
        obtain ⟨i2, h⟩ := h
        refine wk_iald C (wf_Row_numbers hW hl0A).2.1 (wf_Row_numbers hW hl0A).2.2 i2 rfl dX9_total_24 ?_
        refine wk_i2l C dX9_total_25 rfl ?_
        refine wk_ladd C dX9_total_26 rfl ?_
        obtain ⟨x3, ex3, h⟩ := wkLt_some h
        refine wk_topl ex3 ?_
        refine wk_lstore_n C (lv' := [some (.ref l0A), some (.long x3), none, some (.int l3I)]) dX9_total_27 rfl (by decide) rfl ?_
        obtain ⟨x4, ex4, h⟩ := wkLt_some h
        refine wk_iinc C (lv' := [some (.ref l0A), some (.long x3), none, some (.int x4)]) dX9_total_28 rfl (by rw [ex4]; rfl) (by decide) rfl ?_
        refine wk_goto C (tgt := 6) dX9_total_31 (by decide) ?_
        exact wk_forget (lv' := [some (.ref l0A), some (.long x3), none, some (.int x4)]) (wkLs.le ⟨rfl, rfl, rfl, trivial⟩) (ih _ _ _ _ hW hE hl0A h)
set_option maxHeartbeats 4000000 in
set_option maxRecDepth 100000 in
theorem tX9_total {l : Launch} {g : wkG} {F : Nat}  {S : wPS} {l0A : Nat} {Φ : (Int64 → wPS → Prop)} (hW : wkWF S) (hl0A : wkIs S l0A 9) (h : rX9_total F l0A S Φ) : wkMet l g yX9_total wvX9_total 0 0 0 [.ref l0A] S (fun v' S'' => ∃ v : Int64, v' = some (.long v) ∧ Φ v S'' ∧ wkWF S'' ∧ wkExt S S'') := by
  refine wkMet_of (ret := (some .long)) (by decide) rfl (Nat.le_of_ble_eq_true rfl) (fun X hg C hR E => ?_)
  subst hg
  have hE : wkExt S S := wkExt.rf
  have hd : 0 ≤ 0 := Nat.le_refl _
  show wkGo l X 4 0 0 0 S [some (.ref l0A), none, none, none] []
  have ih := tX9_total_go (F := F) C hR hd E F
  have h : rX9_total_s F (rX9_total_go F F) l0A S Φ := h
  unfold rX9_total_s at h
  refine wk_ldc2 C (v := 7) (List.mem_of_getElem? (i := 4) rfl) dX9_total_0 ?_
  refine wk_lstore_n C (lv' := [some (.ref l0A), some (.long (7 : Int64)), none, none]) dX9_total_3 rfl (by decide) rfl ?_
  refine wk_iconst C (v := 0) dX9_total_4 (by decide) ?_
  refine wk_istore_n C (lv' := [some (.ref l0A), some (.long (7 : Int64)), none, some (.int (0 : Int32))]) dX9_total_5 rfl (by decide) rfl ?_
  exact wk_forget (lv' := [some (.ref l0A), some (.long (7 : Int64)), none, some (.int (0 : Int32))]) (wkLs.le ⟨rfl, rfl, rfl, trivial⟩) (ih _ _ _ _ hW hE hl0A h)
def wvX9_liesWithin : List Cond := .code yX9_liesWithin cX9_liesWithin 5 (some .boolean) :: (([.fieldLink RX9 13 "Witnessworks$Row" "count" "I", .fieldLink RX9 7 "Witnessworks$Row" "numbers" "[I"] : List Cond) ++ ((wsX90) ++ ([])))
theorem huX9_liesWithin_9 : ∀ w ∈ u_ws RX9 TX9 2, w ∈ wvX9_liesWithin := fun w h => List.mem_cons_of_mem _ (List.mem_append_right _ (List.mem_append_left _ h))
theorem gdX9_liesWithin : ∀ w ∈ wvX9_liesWithin, wkGd w := wkGdC rfl (wkGdA (wkGdL (by decide +kernel)) (wkGdA gdX9 (fun _ h => absurd h List.not_mem_nil)))
def rX9_liesWithin_b0 (F : Nat) (rec : Nat → Nat → Int32 → Int32 → Int32 → wPS → (Int32 → wPS → Prop) → Prop) (l0A : Nat) (l2I : Int32) (l3I : Int32) (l4I : Int32) (S : wPS) (Φ : (Int32 → wPS → Prop)) : Prop :=
  if (gRow_count S l0A) ≤ l4I then (Φ (1 : Int32) S) else (¬ (l4I < 0 ∨ S.len (wkAd (gRow_numbers S l0A)) ≤ (l4I).toNatClampNeg) ∧ if (S.rI (wkAd (gRow_numbers S l0A)) (l4I).toNatClampNeg) < l2I then (Φ (0 : Int32) S) else (¬ (l4I < 0 ∨ S.len (wkAd (gRow_numbers S l0A)) ≤ (l4I).toNatClampNeg) ∧ if (S.rI (wkAd (gRow_numbers S l0A)) (l4I).toNatClampNeg) ≤ l3I then (wkLt (l4I + (1 : Int32)) fun x6 => rec 0 l0A l2I l3I x6 S Φ) else (Φ (0 : Int32) S)))
def rX9_liesWithin_go (F : Nat) : Nat → Nat → Nat → Int32 → Int32 → Int32 → wPS → (Int32 → wPS → Prop) → Prop
  | 0, _, _, _, _, _, _, _ => False
  | k' + 1, lab, l0A, l2I, l3I, l4I, S, Φ => if lab = 0 then rX9_liesWithin_b0 F (rX9_liesWithin_go F k') l0A l2I l3I l4I S Φ else False
def rX9_liesWithin_s (F : Nat) (rec : Nat → Nat → Int32 → Int32 → Int32 → wPS → (Int32 → wPS → Prop) → Prop) (l0A : Nat) (l1I : Int32) (l2I : Int32) (l3I : Int32) (S : wPS) (Φ : (Int32 → wPS → Prop)) : Prop :=
  rec 0 l0A l2I l3I l1I S Φ
def rX9_liesWithin (F : Nat) (l0A : Nat) (l1I : Int32) (l2I : Int32) (l3I : Int32) (S : wPS) (Φ : (Int32 → wPS → Prop)) : Prop := rX9_liesWithin_s F (rX9_liesWithin_go F F) l0A l1I l2I l3I S Φ
set_option maxHeartbeats 4000000 in
set_option maxRecDepth 100000 in
theorem tX9_liesWithin_go {l : Launch} {X : wkX} {d F : Nat} {S0 : wPS} {Φ : (Int32 → wPS → Prop)} (C : wkC X cX9_liesWithin RX9 5 wvX9_liesWithin) (hR : wkRm X d 0 0) (hd : 0 ≤ d) (E : wkEnd l X cX9_liesWithin 5 (some .boolean) 0 0 (fun v' S'' => ∃ v : Int32, v' = some (.int v) ∧ Φ v S'' ∧ wkWF S'' ∧ wkExt S0 S'')) : ∀ k' : Nat, (∀ (l0A : Nat) (l2I : Int32) (l3I : Int32) (l4I : Int32) (S : wPS), wkWF S → wkExt S0 S → wkIs S l0A 9 → rX9_liesWithin_go F k' 0 l0A l2I l3I l4I S Φ → wkGo l X 5 0 0 3 S [some (.ref l0A), none, some (.int l2I), some (.int l3I), some (.int l4I)] []) := by
  intro k'
  induction k' with
  | zero => exact fun l0A l2I l3I l4I S hW hE hl0A h => h.elim
  | succ k' ih =>
    · intro l0A l2I l3I l4I S hW hE hl0A h
      have h : rX9_liesWithin_b0 F (rX9_liesWithin_go F k') l0A l2I l3I l4I S Φ := by
        rw [rX9_liesWithin_go, if_pos (rfl : (0 : Nat) = 0)] at h
        exact h
      unfold rX9_liesWithin_b0 at h
      refine wk_iload C dX9_liesWithin_3 rfl ?_
      refine wk_aload_n C dX9_liesWithin_5 rfl rfl ?_
      refine wk_get C (v := .int (gRow_count S l0A)) huX9_liesWithin_9 hl0A.1 (fun cy => wAt_9 cy _ hl0A.2) rfl 1 (by decide) (List.mem_of_getElem? (i := 1) rfl) rfl rfl dX9_liesWithin_6 ?_
      refine wk_icmp_ge C (tgt := 42) dX9_liesWithin_9 (by decide) (fun c1 => ?_) (fun c1 => ?_)
      · rw [if_pos c1] at h
        refine wk_iconst C (v := 1) dX9_liesWithin_42 (by decide) ?_
        exact E _ _ _ _ _ _ (Nat.le_refl 0) (Nat.le_refl 0) dX9_liesWithin_43 rfl ⟨(1 : Int32), rfl, h, hW, hE⟩
      · rw [if_neg c1] at h
        refine wk_aload_n C dX9_liesWithin_12 rfl rfl ?_
        refine wk_get C huX9_liesWithin_9 hl0A.1 (fun cy => wAt_9 cy _ hl0A.2) rfl 0 (by decide) (List.mem_of_getElem? (i := 2) rfl) rfl (congrArg some (congrArg va_rf (wf_Row_numbers hW hl0A).1)) dX9_liesWithin_13 ?_
        refine wk_iload C dX9_liesWithin_16 rfl ?_
        obtain ⟨i2, h⟩ := h
        refine wk_iald C (wf_Row_numbers hW hl0A).2.1 (wf_Row_numbers hW hl0A).2.2 i2 rfl dX9_liesWithin_18 ?_
        refine wk_iload_n C dX9_liesWithin_19 rfl rfl ?_
        refine wk_icmp_lt C (tgt := 34) dX9_liesWithin_20 (by decide) (fun c3 => ?_) (fun c3 => ?_)
        · rw [if_pos c3] at h
          refine wk_iconst C (v := 0) dX9_liesWithin_34 (by decide) ?_
          exact E _ _ _ _ _ _ (Nat.le_refl 0) (Nat.le_refl 0) dX9_liesWithin_35 rfl ⟨(0 : Int32), rfl, h, hW, hE⟩
        · rw [if_neg c3] at h
          refine wk_aload_n C dX9_liesWithin_23 rfl rfl ?_
          refine wk_get C huX9_liesWithin_9 hl0A.1 (fun cy => wAt_9 cy _ hl0A.2) rfl 0 (by decide) (List.mem_of_getElem? (i := 2) rfl) rfl (congrArg some (congrArg va_rf (wf_Row_numbers hW hl0A).1)) dX9_liesWithin_24 ?_
          refine wk_iload C dX9_liesWithin_27 rfl ?_
          obtain ⟨i4, h⟩ := h
          refine wk_iald C (wf_Row_numbers hW hl0A).2.1 (wf_Row_numbers hW hl0A).2.2 i4 rfl dX9_liesWithin_29 ?_
          refine wk_iload_n C dX9_liesWithin_30 rfl rfl ?_
          refine wk_icmp_le C (tgt := 36) dX9_liesWithin_31 (by decide) (fun c5 => ?_) (fun c5 => ?_)
          · rw [if_pos c5] at h
            obtain ⟨x6, ex6, h⟩ := wkLt_some h
            refine wk_iinc C (lv' := [some (.ref l0A), none, some (.int l2I), some (.int l3I), some (.int x6)]) dX9_liesWithin_36 rfl (by rw [ex6]; rfl) (by decide) rfl ?_
            refine wk_goto C (tgt := 3) dX9_liesWithin_39 (by decide) ?_
            exact wk_forget (lv' := [some (.ref l0A), none, some (.int l2I), some (.int l3I), some (.int x6)]) (wkLs.le ⟨rfl, rfl, rfl, rfl, trivial⟩) (ih _ _ _ _ _ hW hE hl0A h)
          · rw [if_neg c5] at h
            refine wk_iconst C (v := 0) dX9_liesWithin_34 (by decide) ?_
            exact E _ _ _ _ _ _ (Nat.le_refl 0) (Nat.le_refl 0) dX9_liesWithin_35 rfl ⟨(0 : Int32), rfl, h, hW, hE⟩
set_option maxHeartbeats 4000000 in
set_option maxRecDepth 100000 in
theorem tX9_liesWithin {l : Launch} {g : wkG} {F : Nat}  {S : wPS} {l0A : Nat} {l1I : Int32} {l2I : Int32} {l3I : Int32} {Φ : (Int32 → wPS → Prop)} (hW : wkWF S) (hl0A : wkIs S l0A 9) (h : rX9_liesWithin F l0A l1I l2I l3I S Φ) : wkMet l g yX9_liesWithin wvX9_liesWithin 0 0 0 [.ref l0A, .int l1I, .int l2I, .int l3I] S (fun v' S'' => ∃ v : Int32, v' = some (.int v) ∧ Φ v S'' ∧ wkWF S'' ∧ wkExt S S'') := by
  refine wkMet_of (ret := (some .boolean)) (by decide) rfl (Nat.le_of_ble_eq_true rfl) (fun X hg C hR E => ?_)
  subst hg
  have hE : wkExt S S := wkExt.rf
  have hd : 0 ≤ 0 := Nat.le_refl _
  show wkGo l X 5 0 0 0 S [some (.ref l0A), some (.int l1I), some (.int l2I), some (.int l3I), none] []
  have ih := tX9_liesWithin_go (F := F) C hR hd E F
  have h : rX9_liesWithin_s F (rX9_liesWithin_go F F) l0A l1I l2I l3I S Φ := h
  unfold rX9_liesWithin_s at h
  refine wk_iload_n C dX9_liesWithin_0 rfl rfl ?_
  refine wk_istore C (lv' := [some (.ref l0A), some (.int l1I), some (.int l2I), some (.int l3I), some (.int l1I)]) dX9_liesWithin_1 (by decide) rfl ?_
  exact wk_forget (lv' := [some (.ref l0A), none, some (.int l2I), some (.int l3I), some (.int l1I)]) (wkLs.le ⟨rfl, rfl, rfl, rfl, trivial⟩) (ih _ _ _ _ _ hW hE hl0A h)
def wvX9_isRising : List Cond := .code yX9_isRising cX9_isRising 3 (some .boolean) :: (([.fieldLink RX9 13 "Witnessworks$Row" "count" "I", .fieldLink RX9 7 "Witnessworks$Row" "numbers" "[I"] : List Cond) ++ ((wsX90) ++ ([])))
theorem huX9_isRising_9 : ∀ w ∈ u_ws RX9 TX9 2, w ∈ wvX9_isRising := fun w h => List.mem_cons_of_mem _ (List.mem_append_right _ (List.mem_append_left _ h))
theorem gdX9_isRising : ∀ w ∈ wvX9_isRising, wkGd w := wkGdC rfl (wkGdA (wkGdL (by decide +kernel)) (wkGdA gdX9 (fun _ h => absurd h List.not_mem_nil)))
def rX9_isRising_b0 (F : Nat) (rec : Nat → Nat → Int32 → wPS → (Int32 → wPS → Prop) → Prop) (l0A : Nat) (l2I : Int32) (S : wPS) (Φ : (Int32 → wPS → Prop)) : Prop :=
  if (gRow_count S l0A) ≤ l2I then (Φ (1 : Int32) S) else (¬ (l2I < 0 ∨ S.len (wkAd (gRow_numbers S l0A)) ≤ (l2I).toNatClampNeg) ∧ ¬ ((l2I - (1 : Int32)) < 0 ∨ S.len (wkAd (gRow_numbers S l0A)) ≤ ((l2I - (1 : Int32))).toNatClampNeg) ∧ if (S.rI (wkAd (gRow_numbers S l0A)) ((l2I - (1 : Int32))).toNatClampNeg) < (S.rI (wkAd (gRow_numbers S l0A)) (l2I).toNatClampNeg) then (wkLt (l2I + (1 : Int32)) fun x5 => rec 0 l0A x5 S Φ) else (Φ (0 : Int32) S))
def rX9_isRising_go (F : Nat) : Nat → Nat → Nat → Int32 → wPS → (Int32 → wPS → Prop) → Prop
  | 0, _, _, _, _, _ => False
  | k' + 1, lab, l0A, l2I, S, Φ => if lab = 0 then rX9_isRising_b0 F (rX9_isRising_go F k') l0A l2I S Φ else False
def rX9_isRising_s (F : Nat) (rec : Nat → Nat → Int32 → wPS → (Int32 → wPS → Prop) → Prop) (l0A : Nat) (l1I : Int32) (S : wPS) (Φ : (Int32 → wPS → Prop)) : Prop :=
  wkLt ((l1I + (1 : Int32))) fun x6 => rec 0 l0A x6 S Φ
def rX9_isRising (F : Nat) (l0A : Nat) (l1I : Int32) (S : wPS) (Φ : (Int32 → wPS → Prop)) : Prop := rX9_isRising_s F (rX9_isRising_go F F) l0A l1I S Φ
set_option maxHeartbeats 4000000 in
set_option maxRecDepth 100000 in
theorem tX9_isRising_go {l : Launch} {X : wkX} {d F : Nat} {S0 : wPS} {Φ : (Int32 → wPS → Prop)} (C : wkC X cX9_isRising RX9 3 wvX9_isRising) (hR : wkRm X d 0 0) (hd : 0 ≤ d) (E : wkEnd l X cX9_isRising 3 (some .boolean) 0 0 (fun v' S'' => ∃ v : Int32, v' = some (.int v) ∧ Φ v S'' ∧ wkWF S'' ∧ wkExt S0 S'')) : ∀ k' : Nat, (∀ (l0A : Nat) (l2I : Int32) (S : wPS), wkWF S → wkExt S0 S → wkIs S l0A 9 → rX9_isRising_go F k' 0 l0A l2I S Φ → wkGo l X 3 0 0 4 S [some (.ref l0A), none, some (.int l2I)] []) := by
  intro k'
  induction k' with
  | zero => exact fun l0A l2I S hW hE hl0A h => h.elim
  | succ k' ih =>
    · intro l0A l2I S hW hE hl0A h
      have h : rX9_isRising_b0 F (rX9_isRising_go F k') l0A l2I S Φ := by
        rw [rX9_isRising_go, if_pos (rfl : (0 : Nat) = 0)] at h
        exact h
      unfold rX9_isRising_b0 at h
      refine wk_iload_n C dX9_isRising_4 rfl rfl ?_
      refine wk_aload_n C dX9_isRising_5 rfl rfl ?_
      refine wk_get C (v := .int (gRow_count S l0A)) huX9_isRising_9 hl0A.1 (fun cy => wAt_9 cy _ hl0A.2) rfl 1 (by decide) (List.mem_of_getElem? (i := 1) rfl) rfl rfl dX9_isRising_6 ?_
      refine wk_icmp_ge C (tgt := 37) dX9_isRising_9 (by decide) (fun c1 => ?_) (fun c1 => ?_)
      · rw [if_pos c1] at h
        refine wk_iconst C (v := 1) dX9_isRising_37 (by decide) ?_
        exact E _ _ _ _ _ _ (Nat.le_refl 0) (Nat.le_refl 0) dX9_isRising_38 rfl ⟨(1 : Int32), rfl, h, hW, hE⟩
      · rw [if_neg c1] at h
        refine wk_aload_n C dX9_isRising_12 rfl rfl ?_
        refine wk_get C huX9_isRising_9 hl0A.1 (fun cy => wAt_9 cy _ hl0A.2) rfl 0 (by decide) (List.mem_of_getElem? (i := 2) rfl) rfl (congrArg some (congrArg va_rf (wf_Row_numbers hW hl0A).1)) dX9_isRising_13 ?_
        refine wk_iload_n C dX9_isRising_16 rfl rfl ?_
        obtain ⟨i2, h⟩ := h
        refine wk_iald C (wf_Row_numbers hW hl0A).2.1 (wf_Row_numbers hW hl0A).2.2 i2 rfl dX9_isRising_17 ?_
        refine wk_aload_n C dX9_isRising_18 rfl rfl ?_
        refine wk_get C huX9_isRising_9 hl0A.1 (fun cy => wAt_9 cy _ hl0A.2) rfl 0 (by decide) (List.mem_of_getElem? (i := 2) rfl) rfl (congrArg some (congrArg va_rf (wf_Row_numbers hW hl0A).1)) dX9_isRising_19 ?_
        refine wk_iload_n C dX9_isRising_22 rfl rfl ?_
        refine wk_iconst C (v := 1) dX9_isRising_23 (by decide) ?_
        refine wk_isub C dX9_isRising_24 rfl ?_
        obtain ⟨i3, h⟩ := h
        refine wk_iald C (wf_Row_numbers hW hl0A).2.1 (wf_Row_numbers hW hl0A).2.2 i3 rfl dX9_isRising_25 ?_
        refine wk_icmp_gt C (tgt := 31) dX9_isRising_26 (by decide) (fun c4 => ?_) (fun c4 => ?_)
        · rw [if_pos c4] at h
          obtain ⟨x5, ex5, h⟩ := wkLt_some h
          refine wk_iinc C (lv' := [some (.ref l0A), none, some (.int x5)]) dX9_isRising_31 rfl (by rw [ex5]; rfl) (by decide) rfl ?_
          refine wk_goto C (tgt := 4) dX9_isRising_34 (by decide) ?_
          exact wk_forget (lv' := [some (.ref l0A), none, some (.int x5)]) (wkLs.le ⟨rfl, rfl, trivial⟩) (ih _ _ _ hW hE hl0A h)
        · rw [if_neg c4] at h
          refine wk_iconst C (v := 0) dX9_isRising_29 (by decide) ?_
          exact E _ _ _ _ _ _ (Nat.le_refl 0) (Nat.le_refl 0) dX9_isRising_30 rfl ⟨(0 : Int32), rfl, h, hW, hE⟩
set_option maxHeartbeats 4000000 in
set_option maxRecDepth 100000 in
theorem tX9_isRising {l : Launch} {g : wkG} {F : Nat}  {S : wPS} {l0A : Nat} {l1I : Int32} {Φ : (Int32 → wPS → Prop)} (hW : wkWF S) (hl0A : wkIs S l0A 9) (h : rX9_isRising F l0A l1I S Φ) : wkMet l g yX9_isRising wvX9_isRising 0 0 0 [.ref l0A, .int l1I] S (fun v' S'' => ∃ v : Int32, v' = some (.int v) ∧ Φ v S'' ∧ wkWF S'' ∧ wkExt S S'') := by
  refine wkMet_of (ret := (some .boolean)) (by decide) rfl (Nat.le_of_ble_eq_true rfl) (fun X hg C hR E => ?_)
  subst hg
  have hE : wkExt S S := wkExt.rf
  have hd : 0 ≤ 0 := Nat.le_refl _
  show wkGo l X 3 0 0 0 S [some (.ref l0A), some (.int l1I), none] []
  have ih := tX9_isRising_go (F := F) C hR hd E F
  have h : rX9_isRising_s F (rX9_isRising_go F F) l0A l1I S Φ := h
  unfold rX9_isRising_s at h
  refine wk_iload_n C dX9_isRising_0 rfl rfl ?_
  refine wk_iconst C (v := 1) dX9_isRising_1 (by decide) ?_
  refine wk_iadd C dX9_isRising_2 rfl ?_
  obtain ⟨x6, ex6, h⟩ := wkLt_some h
  refine wk_topi ex6 ?_
  refine wk_istore_n C (lv' := [some (.ref l0A), some (.int l1I), some (.int x6)]) dX9_isRising_3 rfl (by decide) rfl ?_
  exact wk_forget (lv' := [some (.ref l0A), none, some (.int x6)]) (wkLs.le ⟨rfl, rfl, trivial⟩) (ih _ _ _ hW hE hl0A h)
def wvX9_holds : List Cond := .code yX9_holds cX9_holds 7 (some .boolean) :: (([.fieldLink RX9 7 "Witnessworks$Row" "numbers" "[I", .fieldLink RX9 13 "Witnessworks$Row" "count" "I"] : List Cond) ++ ((wsX90) ++ ([])))
theorem huX9_holds_9 : ∀ w ∈ u_ws RX9 TX9 2, w ∈ wvX9_holds := fun w h => List.mem_cons_of_mem _ (List.mem_append_right _ (List.mem_append_left _ h))
theorem gdX9_holds : ∀ w ∈ wvX9_holds, wkGd w := wkGdC rfl (wkGdA (wkGdL (by decide +kernel)) (wkGdA gdX9 (fun _ h => absurd h List.not_mem_nil)))
def rX9_holds_b0 (F : Nat) (rec : Nat → Nat → Int32 → Int32 → Int32 → Int32 → wPS → (Int32 → wPS → Prop) → Prop) (l0A : Nat) (l2I : Int32) (l3I : Int32) (l4I : Int32) (l5I : Int32) (S : wPS) (Φ : (Int32 → wPS → Prop)) : Prop :=
  if (32 : Int32) ≤ l5I then (Φ (0 : Int32) S) else (if l4I < l3I then (Φ (0 : Int32) S) else (wkLt (((l3I + l4I) / (2 : Int32))) fun x3 => ¬ (x3 < 0 ∨ S.len (wkAd (gRow_numbers S l0A)) ≤ (x3).toNatClampNeg) ∧ if (S.rI (wkAd (gRow_numbers S l0A)) (x3).toNatClampNeg) = l2I then (Φ (1 : Int32) S) else (¬ (x3 < 0 ∨ S.len (wkAd (gRow_numbers S l0A)) ≤ (x3).toNatClampNeg) ∧ if l2I ≤ (S.rI (wkAd (gRow_numbers S l0A)) (x3).toNatClampNeg) then (wkLt ((x3 - (1 : Int32))) fun x8 => wkLt (l5I + (1 : Int32)) fun x9 => rec 0 l0A l2I l3I x8 x9 S Φ) else (wkLt ((x3 + (1 : Int32))) fun x10 => wkLt (l5I + (1 : Int32)) fun x11 => rec 0 l0A l2I x10 l4I x11 S Φ))))
def rX9_holds_go (F : Nat) : Nat → Nat → Nat → Int32 → Int32 → Int32 → Int32 → wPS → (Int32 → wPS → Prop) → Prop
  | 0, _, _, _, _, _, _, _, _ => False
  | k' + 1, lab, l0A, l2I, l3I, l4I, l5I, S, Φ => if lab = 0 then rX9_holds_b0 F (rX9_holds_go F k') l0A l2I l3I l4I l5I S Φ else False
def rX9_holds_s (F : Nat) (rec : Nat → Nat → Int32 → Int32 → Int32 → Int32 → wPS → (Int32 → wPS → Prop) → Prop) (l0A : Nat) (l1I : Int32) (l2I : Int32) (S : wPS) (Φ : (Int32 → wPS → Prop)) : Prop :=
  wkLt (((gRow_count S l0A) - (1 : Int32))) fun x12 => rec 0 l0A l2I l1I x12 (0 : Int32) S Φ
def rX9_holds (F : Nat) (l0A : Nat) (l1I : Int32) (l2I : Int32) (S : wPS) (Φ : (Int32 → wPS → Prop)) : Prop := rX9_holds_s F (rX9_holds_go F F) l0A l1I l2I S Φ
set_option maxHeartbeats 4000000 in
set_option maxRecDepth 100000 in
theorem tX9_holds_go {l : Launch} {X : wkX} {d F : Nat} {S0 : wPS} {Φ : (Int32 → wPS → Prop)} (C : wkC X cX9_holds RX9 7 wvX9_holds) (hR : wkRm X d 0 0) (hd : 0 ≤ d) (E : wkEnd l X cX9_holds 7 (some .boolean) 0 0 (fun v' S'' => ∃ v : Int32, v' = some (.int v) ∧ Φ v S'' ∧ wkWF S'' ∧ wkExt S0 S'')) : ∀ k' : Nat, (∀ (l0A : Nat) (l2I : Int32) (l3I : Int32) (l4I : Int32) (l5I : Int32) (S : wPS), wkWF S → wkExt S0 S → wkIs S l0A 9 → rX9_holds_go F k' 0 l0A l2I l3I l4I l5I S Φ → wkGo l X 7 0 0 13 S [some (.ref l0A), none, some (.int l2I), some (.int l3I), some (.int l4I), some (.int l5I), none] []) := by
  intro k'
  induction k' with
  | zero => exact fun l0A l2I l3I l4I l5I S hW hE hl0A h => h.elim
  | succ k' ih =>
    · intro l0A l2I l3I l4I l5I S hW hE hl0A h
      have h : rX9_holds_b0 F (rX9_holds_go F k') l0A l2I l3I l4I l5I S Φ := by
        rw [rX9_holds_go, if_pos (rfl : (0 : Nat) = 0)] at h
        exact h
      unfold rX9_holds_b0 at h
      refine wk_iload C dX9_holds_13 rfl ?_
      refine wk_bipush C (v := 32) dX9_holds_15 (by decide) ?_
      refine wk_icmp_ge C (tgt := 78) dX9_holds_17 (by decide) (fun c1 => ?_) (fun c1 => ?_)
      · rw [if_pos c1] at h
        refine wk_iconst C (v := 0) dX9_holds_78 (by decide) ?_
        exact E _ _ _ _ _ _ (Nat.le_refl 0) (Nat.le_refl 0) dX9_holds_79 rfl ⟨(0 : Int32), rfl, h, hW, hE⟩
      · rw [if_neg c1] at h
        refine wk_iload_n C dX9_holds_20 rfl rfl ?_
        refine wk_iload C dX9_holds_21 rfl ?_
        refine wk_icmp_gt C (tgt := 78) dX9_holds_23 (by decide) (fun c2 => ?_) (fun c2 => ?_)
        · rw [if_pos c2] at h
          refine wk_iconst C (v := 0) dX9_holds_78 (by decide) ?_
          exact E _ _ _ _ _ _ (Nat.le_refl 0) (Nat.le_refl 0) dX9_holds_79 rfl ⟨(0 : Int32), rfl, h, hW, hE⟩
        · rw [if_neg c2] at h
          refine wk_iload_n C dX9_holds_26 rfl rfl ?_
          refine wk_iload C dX9_holds_27 rfl ?_
          refine wk_iadd C dX9_holds_29 rfl ?_
          refine wk_iconst C (v := 2) dX9_holds_30 (by decide) ?_
          refine wk_idiv C dX9_holds_31 (by decide) rfl ?_
          obtain ⟨x3, ex3, h⟩ := wkLt_some h
          refine wk_topi ex3 ?_
          refine wk_istore C (lv' := [some (.ref l0A), none, some (.int l2I), some (.int l3I), some (.int l4I), some (.int l5I), some (.int x3)]) dX9_holds_32 (by decide) rfl ?_
          refine wk_aload_n C dX9_holds_34 rfl rfl ?_
          refine wk_get C huX9_holds_9 hl0A.1 (fun cy => wAt_9 cy _ hl0A.2) rfl 0 (by decide) (List.mem_of_getElem? (i := 1) rfl) rfl (congrArg some (congrArg va_rf (wf_Row_numbers hW hl0A).1)) dX9_holds_35 ?_
          refine wk_iload C dX9_holds_38 rfl ?_
          obtain ⟨i4, h⟩ := h
          refine wk_iald C (wf_Row_numbers hW hl0A).2.1 (wf_Row_numbers hW hl0A).2.2 i4 rfl dX9_holds_40 ?_
          refine wk_iload_n C dX9_holds_41 rfl rfl ?_
          refine wk_icmp_ne C (tgt := 47) dX9_holds_42 (by decide) (fun c5 => ?_) (fun c5 => ?_)
          · rw [if_neg c5] at h
            refine wk_aload_n C dX9_holds_47 rfl rfl ?_
            refine wk_get C huX9_holds_9 hl0A.1 (fun cy => wAt_9 cy _ hl0A.2) rfl 0 (by decide) (List.mem_of_getElem? (i := 1) rfl) rfl (congrArg some (congrArg va_rf (wf_Row_numbers hW hl0A).1)) dX9_holds_48 ?_
            refine wk_iload C dX9_holds_51 rfl ?_
            obtain ⟨i6, h⟩ := h
            refine wk_iald C (wf_Row_numbers hW hl0A).2.1 (wf_Row_numbers hW hl0A).2.2 i6 rfl dX9_holds_53 ?_
            refine wk_iload_n C dX9_holds_54 rfl rfl ?_
            refine wk_icmp_ge C (tgt := 66) dX9_holds_55 (by decide) (fun c7 => ?_) (fun c7 => ?_)
            · rw [if_pos c7] at h
              refine wk_iload C dX9_holds_66 rfl ?_
              refine wk_iconst C (v := 1) dX9_holds_68 (by decide) ?_
              refine wk_isub C dX9_holds_69 rfl ?_
              obtain ⟨x8, ex8, h⟩ := wkLt_some h
              refine wk_topi ex8 ?_
              refine wk_istore C (lv' := [some (.ref l0A), none, some (.int l2I), some (.int l3I), some (.int x8), some (.int l5I), some (.int x3)]) dX9_holds_70 (by decide) rfl ?_
              obtain ⟨x9, ex9, h⟩ := wkLt_some h
              refine wk_iinc C (lv' := [some (.ref l0A), none, some (.int l2I), some (.int l3I), some (.int x8), some (.int x9), some (.int x3)]) dX9_holds_72 rfl (by rw [ex9]; rfl) (by decide) rfl ?_
              refine wk_goto C (tgt := 13) dX9_holds_75 (by decide) ?_
              exact wk_forget (lv' := [some (.ref l0A), none, some (.int l2I), some (.int l3I), some (.int x8), some (.int x9), none]) (wkLs.le ⟨rfl, rfl, rfl, rfl, rfl, trivial⟩) (ih _ _ _ _ _ _ hW hE hl0A h)
            · rw [if_neg c7] at h
              refine wk_iload C dX9_holds_58 rfl ?_
              refine wk_iconst C (v := 1) dX9_holds_60 (by decide) ?_
              refine wk_iadd C dX9_holds_61 rfl ?_
              obtain ⟨x10, ex10, h⟩ := wkLt_some h
              refine wk_topi ex10 ?_
              refine wk_istore_n C (lv' := [some (.ref l0A), none, some (.int l2I), some (.int x10), some (.int l4I), some (.int l5I), some (.int x3)]) dX9_holds_62 rfl (by decide) rfl ?_
              refine wk_goto C (tgt := 72) dX9_holds_63 (by decide) ?_
              obtain ⟨x11, ex11, h⟩ := wkLt_some h
              refine wk_iinc C (lv' := [some (.ref l0A), none, some (.int l2I), some (.int x10), some (.int l4I), some (.int x11), some (.int x3)]) dX9_holds_72 rfl (by rw [ex11]; rfl) (by decide) rfl ?_
              refine wk_goto C (tgt := 13) dX9_holds_75 (by decide) ?_
              exact wk_forget (lv' := [some (.ref l0A), none, some (.int l2I), some (.int x10), some (.int l4I), some (.int x11), none]) (wkLs.le ⟨rfl, rfl, rfl, rfl, rfl, trivial⟩) (ih _ _ _ _ _ _ hW hE hl0A h)
          · rw [if_pos c5] at h
            refine wk_iconst C (v := 1) dX9_holds_45 (by decide) ?_
            exact E _ _ _ _ _ _ (Nat.le_refl 0) (Nat.le_refl 0) dX9_holds_46 rfl ⟨(1 : Int32), rfl, h, hW, hE⟩
set_option maxHeartbeats 4000000 in
set_option maxRecDepth 100000 in
theorem tX9_holds {l : Launch} {g : wkG} {F : Nat}  {S : wPS} {l0A : Nat} {l1I : Int32} {l2I : Int32} {Φ : (Int32 → wPS → Prop)} (hW : wkWF S) (hl0A : wkIs S l0A 9) (h : rX9_holds F l0A l1I l2I S Φ) : wkMet l g yX9_holds wvX9_holds 0 0 0 [.ref l0A, .int l1I, .int l2I] S (fun v' S'' => ∃ v : Int32, v' = some (.int v) ∧ Φ v S'' ∧ wkWF S'' ∧ wkExt S S'') := by
  refine wkMet_of (ret := (some .boolean)) (by decide) rfl (Nat.le_of_ble_eq_true rfl) (fun X hg C hR E => ?_)
  subst hg
  have hE : wkExt S S := wkExt.rf
  have hd : 0 ≤ 0 := Nat.le_refl _
  show wkGo l X 7 0 0 0 S [some (.ref l0A), some (.int l1I), some (.int l2I), none, none, none, none] []
  have ih := tX9_holds_go (F := F) C hR hd E F
  have h : rX9_holds_s F (rX9_holds_go F F) l0A l1I l2I S Φ := h
  unfold rX9_holds_s at h
  refine wk_iload_n C dX9_holds_0 rfl rfl ?_
  refine wk_istore_n C (lv' := [some (.ref l0A), some (.int l1I), some (.int l2I), some (.int l1I), none, none, none]) dX9_holds_1 rfl (by decide) rfl ?_
  refine wk_aload_n C dX9_holds_2 rfl rfl ?_
  refine wk_get C (v := .int (gRow_count S l0A)) huX9_holds_9 hl0A.1 (fun cy => wAt_9 cy _ hl0A.2) rfl 1 (by decide) (List.mem_of_getElem? (i := 2) rfl) rfl rfl dX9_holds_3 ?_
  refine wk_iconst C (v := 1) dX9_holds_6 (by decide) ?_
  refine wk_isub C dX9_holds_7 rfl ?_
  obtain ⟨x12, ex12, h⟩ := wkLt_some h
  refine wk_topi ex12 ?_
  refine wk_istore C (lv' := [some (.ref l0A), some (.int l1I), some (.int l2I), some (.int l1I), some (.int x12), none, none]) dX9_holds_8 (by decide) rfl ?_
  refine wk_iconst C (v := 0) dX9_holds_10 (by decide) ?_
  refine wk_istore C (lv' := [some (.ref l0A), some (.int l1I), some (.int l2I), some (.int l1I), some (.int x12), some (.int (0 : Int32)), none]) dX9_holds_11 (by decide) rfl ?_
  exact wk_forget (lv' := [some (.ref l0A), none, some (.int l2I), some (.int l1I), some (.int x12), some (.int (0 : Int32)), none]) (wkLs.le ⟨rfl, rfl, rfl, rfl, rfl, trivial⟩) (ih _ _ _ _ _ _ hW hE hl0A h)
def wvX10_init : List Cond := .code yX10_init cX10_init 1 none :: (([.methodLink RX10 3 objectInit, .instanceMethod objectInit, .code objectInit ⟨#[0xb1]⟩ 1 none, .classLink RX10 11 "[[I", .arrayClass .int, .fieldLink RX10 13 "Witnessworks$Words" "leads" "[[I", .fieldLink RX10 16 "Witnessworks$Words" "goal" "[I", .fieldLink RX10 20 "Witnessworks$Words" "points" "[I", .fieldLink RX10 23 "Witnessworks$Words" "ledPoints" "[I", .fieldLink RX10 26 "Witnessworks$Words" "queue" "[I", .fieldLink RX10 29 "Witnessworks$Words" "aheadOf" "[I", .fieldLink RX10 32 "Witnessworks$Words" "cameBy" "[I", .fieldLink RX10 35 "Witnessworks$Words" "steps" "[I", .fieldLink RX10 38 "Witnessworks$Words" "next" "[I"] : List Cond) ++ ((wsX100) ++ ([])))
theorem huX10_init_10 : ∀ w ∈ u_ws RX10 TX10 12, w ∈ wvX10_init := fun w h => List.mem_cons_of_mem _ (List.mem_append_right _ (List.mem_append_left _ h))
theorem gdX10_init : ∀ w ∈ wvX10_init, wkGd w := wkGdC rfl (wkGdA (wkGdL (by decide +kernel)) (wkGdA gdX10 (fun _ h => absurd h List.not_mem_nil)))
def rX10_init (F : Nat) (k n : Nat) (l0A : Nat) (S : wPS) (Φ : (Unit → wPS → Prop)) : Prop :=
  ¬ (5 : Int32) < 0 ∧ ¬ (6 : Int32) < 0 ∧ ((5 : Int32)).toNatClampNeg * 4 ≤ 536870912 ∧ ((6 : Int32)).toNatClampNeg * 8 ≤ 536870912 ∧ 0 + (1 + ((5 : Int32)).toNatClampNeg) ≤ k ∧ 0 + (((5 : Int32)).toNatClampNeg + ((5 : Int32)).toNatClampNeg * ((6 : Int32)).toNatClampNeg) ≤ n ∧ ∀ (q2 : Nat) (r3 : Nat → Nat), (∀ i j : Nat, i < ((5 : Int32)).toNatClampNeg → j < ((5 : Int32)).toNatClampNeg → r3 i = r3 j → i = j) → (∀ i : Nat, i < ((5 : Int32)).toNatClampNeg → ¬ r3 i ∈ S.L) → ¬ q2 ∈ S.L ++ (List.range ((5 : Int32)).toNatClampNeg).map r3 → wkLt (wnT S q2 17 13 ((5 : Int32)).toNatClampNeg ((6 : Int32)).toNatClampNeg ((List.range ((5 : Int32)).toNatClampNeg).map r3) r3) fun S4 => wkLt (wu_Words_leads S4 l0A (some q2)) fun S7 => ¬ (6 : Int32) < 0 ∧ (0 + 1 + ((5 : Int32)).toNatClampNeg) + 1 ≤ k ∧ (0 + ((5 : Int32)).toNatClampNeg + ((5 : Int32)).toNatClampNeg * ((6 : Int32)).toNatClampNeg) + ((6 : Int32)).toNatClampNeg ≤ n ∧ ((6 : Int32)).toNatClampNeg * 4 ≤ 536870912 ∧ ∀ q9 : Nat, ¬ q9 ∈ S7.L → wkLt (wnI S7 q9 13 ((6 : Int32)).toNatClampNeg (fun _ => 0)) fun S10 => wkLt (wu_Words_goal S10 l0A (some q9)) fun S11 => ¬ (6 : Int32) < 0 ∧ ((0 + 1 + ((5 : Int32)).toNatClampNeg) + 1) + 1 ≤ k ∧ ((0 + ((5 : Int32)).toNatClampNeg + ((5 : Int32)).toNatClampNeg * ((6 : Int32)).toNatClampNeg) + ((6 : Int32)).toNatClampNeg) + ((6 : Int32)).toNatClampNeg ≤ n ∧ ((6 : Int32)).toNatClampNeg * 4 ≤ 536870912 ∧ ∀ q13 : Nat, ¬ q13 ∈ S11.L → wkLt (wnI S11 q13 13 ((6 : Int32)).toNatClampNeg (fun _ => 0)) fun S14 => wkLt (wu_Words_points S14 l0A (some q13)) fun S15 => ¬ (6 : Int32) < 0 ∧ (((0 + 1 + ((5 : Int32)).toNatClampNeg) + 1) + 1) + 1 ≤ k ∧ (((0 + ((5 : Int32)).toNatClampNeg + ((5 : Int32)).toNatClampNeg * ((6 : Int32)).toNatClampNeg) + ((6 : Int32)).toNatClampNeg) + ((6 : Int32)).toNatClampNeg) + ((6 : Int32)).toNatClampNeg ≤ n ∧ ((6 : Int32)).toNatClampNeg * 4 ≤ 536870912 ∧ ∀ q17 : Nat, ¬ q17 ∈ S15.L → wkLt (wnI S15 q17 13 ((6 : Int32)).toNatClampNeg (fun _ => 0)) fun S18 => wkLt (wu_Words_ledPoints S18 l0A (some q17)) fun S19 => ¬ (720 : Int32) < 0 ∧ ((((0 + 1 + ((5 : Int32)).toNatClampNeg) + 1) + 1) + 1) + 1 ≤ k ∧ ((((0 + ((5 : Int32)).toNatClampNeg + ((5 : Int32)).toNatClampNeg * ((6 : Int32)).toNatClampNeg) + ((6 : Int32)).toNatClampNeg) + ((6 : Int32)).toNatClampNeg) + ((6 : Int32)).toNatClampNeg) + ((720 : Int32)).toNatClampNeg ≤ n ∧ ((720 : Int32)).toNatClampNeg * 4 ≤ 536870912 ∧ ∀ q21 : Nat, ¬ q21 ∈ S19.L → wkLt (wnI S19 q21 13 ((720 : Int32)).toNatClampNeg (fun _ => 0)) fun S22 => wkLt (wu_Words_queue S22 l0A (some q21)) fun S23 => ¬ (720 : Int32) < 0 ∧ (((((0 + 1 + ((5 : Int32)).toNatClampNeg) + 1) + 1) + 1) + 1) + 1 ≤ k ∧ (((((0 + ((5 : Int32)).toNatClampNeg + ((5 : Int32)).toNatClampNeg * ((6 : Int32)).toNatClampNeg) + ((6 : Int32)).toNatClampNeg) + ((6 : Int32)).toNatClampNeg) + ((6 : Int32)).toNatClampNeg) + ((720 : Int32)).toNatClampNeg) + ((720 : Int32)).toNatClampNeg ≤ n ∧ ((720 : Int32)).toNatClampNeg * 4 ≤ 536870912 ∧ ∀ q25 : Nat, ¬ q25 ∈ S23.L → wkLt (wnI S23 q25 13 ((720 : Int32)).toNatClampNeg (fun _ => 0)) fun S26 => wkLt (wu_Words_aheadOf S26 l0A (some q25)) fun S27 => ¬ (720 : Int32) < 0 ∧ ((((((0 + 1 + ((5 : Int32)).toNatClampNeg) + 1) + 1) + 1) + 1) + 1) + 1 ≤ k ∧ ((((((0 + ((5 : Int32)).toNatClampNeg + ((5 : Int32)).toNatClampNeg * ((6 : Int32)).toNatClampNeg) + ((6 : Int32)).toNatClampNeg) + ((6 : Int32)).toNatClampNeg) + ((6 : Int32)).toNatClampNeg) + ((720 : Int32)).toNatClampNeg) + ((720 : Int32)).toNatClampNeg) + ((720 : Int32)).toNatClampNeg ≤ n ∧ ((720 : Int32)).toNatClampNeg * 4 ≤ 536870912 ∧ ∀ q29 : Nat, ¬ q29 ∈ S27.L → wkLt (wnI S27 q29 13 ((720 : Int32)).toNatClampNeg (fun _ => 0)) fun S30 => wkLt (wu_Words_cameBy S30 l0A (some q29)) fun S31 => ¬ (256 : Int32) < 0 ∧ (((((((0 + 1 + ((5 : Int32)).toNatClampNeg) + 1) + 1) + 1) + 1) + 1) + 1) + 1 ≤ k ∧ (((((((0 + ((5 : Int32)).toNatClampNeg + ((5 : Int32)).toNatClampNeg * ((6 : Int32)).toNatClampNeg) + ((6 : Int32)).toNatClampNeg) + ((6 : Int32)).toNatClampNeg) + ((6 : Int32)).toNatClampNeg) + ((720 : Int32)).toNatClampNeg) + ((720 : Int32)).toNatClampNeg) + ((720 : Int32)).toNatClampNeg) + ((256 : Int32)).toNatClampNeg ≤ n ∧ ((256 : Int32)).toNatClampNeg * 4 ≤ 536870912 ∧ ∀ q33 : Nat, ¬ q33 ∈ S31.L → wkLt (wnI S31 q33 13 ((256 : Int32)).toNatClampNeg (fun _ => 0)) fun S34 => wkLt (wu_Words_steps S34 l0A (some q33)) fun S35 => ¬ (96 : Int32) < 0 ∧ ((((((((0 + 1 + ((5 : Int32)).toNatClampNeg) + 1) + 1) + 1) + 1) + 1) + 1) + 1) + 1 ≤ k ∧ ((((((((0 + ((5 : Int32)).toNatClampNeg + ((5 : Int32)).toNatClampNeg * ((6 : Int32)).toNatClampNeg) + ((6 : Int32)).toNatClampNeg) + ((6 : Int32)).toNatClampNeg) + ((6 : Int32)).toNatClampNeg) + ((720 : Int32)).toNatClampNeg) + ((720 : Int32)).toNatClampNeg) + ((720 : Int32)).toNatClampNeg) + ((256 : Int32)).toNatClampNeg) + ((96 : Int32)).toNatClampNeg ≤ n ∧ ((96 : Int32)).toNatClampNeg * 4 ≤ 536870912 ∧ ∀ q37 : Nat, ¬ q37 ∈ S35.L → wkLt (wnI S35 q37 13 ((96 : Int32)).toNatClampNeg (fun _ => 0)) fun S38 => wkLt (wu_Words_next S38 l0A (some q37)) fun S39 => Φ () S39
set_option maxHeartbeats 4000000 in
set_option maxRecDepth 100000 in
theorem tX10_init {l : Launch} {g : wkG} {F : Nat} {k n : Nat}  {S : wPS} {l0A : Nat} {Φ : (Unit → wPS → Prop)} (hmk : wkMk g) (hW : wkTT S) (hl0A : wkIs S l0A 10) (h : rX10_init F k n l0A S Φ) : wkMet l g yX10_init wvX10_init 1 k n [.ref l0A] S (fun v' S'' => ∃ v : Unit, v' = none ∧ Φ v S'' ∧ wkTT S'' ∧ wkExt S S'') := by
  refine wkMet_ofI (ret := none) (plainFor_of_name (by decide)) rfl rfl (Nat.le_of_ble_eq_true rfl) (fun X hg C hR hI0 E => ?_)
  subst hg
  have hE : wkExt S S := wkExt.rf
  have hd : 1 ≤ 1 := Nat.le_refl _
  show wkGo l X 1 0 0 0 S [some (.ref l0A)] []
  unfold rX10_init at h
  refine wk_aload_n C dX10_init_0 rfl rfl ?_
  refine wk_objInit C hR (List.mem_of_getElem? (i := 1) rfl) (List.mem_of_getElem? (i := 2) rfl) (List.mem_of_getElem? (i := 3) rfl) (Nat.le_trans (by decide) hd) (Nat.le_of_ble_eq_true rfl) dX10_init_1 ?_
  refine wk_aload_n C dX10_init_4 rfl rfl ?_
  refine wk_iconst C (v := 5) dX10_init_5 (by decide) ?_
  refine wk_bipush C (v := 6) dX10_init_6 (by decide) ?_
  obtain ⟨h1a, h1b, h1c, h1d, h1e, h1f, h⟩ := h
  refine wk_mnaI C hR hmk (List.mem_of_getElem? (i := 4) rfl) (List.mem_of_getElem? (i := 5) rfl) h1a h1b h1c h1d h1e h1f dX10_init_8 (fun q2 r3 h1i h1r h1q => ?_)
  obtain ⟨S4, eS4, h⟩ := wkLt_some (h q2 r3 h1i h1r h1q)
  rw [← eS4]
  obtain ⟨hXS4, hIS4⟩ := wkExt_newT eS4 (fun z => h1q (List.mem_append_left _ z)) (fun a ha z => by obtain ⟨i, hi, rfl⟩ := List.mem_map.mp ha; exact h1r i (List.mem_range.mp hi) z)
  have hWS4 : wkTT S4 := trivial
  have z5 : 0 + 1 + ((5 : Int32)).toNatClampNeg ≤ k := by omega
  have z6 : 0 + ((5 : Int32)).toNatClampNeg + ((5 : Int32)).toNatClampNeg * ((6 : Int32)).toNatClampNeg ≤ n := by omega
  obtain ⟨S7, eS7, h⟩ := wkLt_some h
  refine wk_putF C hI0 (S' := S7) huX10_init_10 (hXS4 _ _ hl0A).1 (fun cy => wAt_10 cy _ (hXS4 _ _ hl0A).2) rfl 0 (by decide) (List.mem_of_getElem? (i := 6) rfl) rfl tyX10_ok nmX10 rfl rfl (ty := (.array (.array .int))) rfl rfl rfl (by show 0 < 12; decide) (fun cy b => by rw [eS7]; exact wSt_10_0 cy _ (hXS4 _ _ hl0A).2 (some q2) b) (by rw [eS7]) dX10_init_12 ?_
  have hWS7 : wkTT S7 := trivial
  have hXS7 : wkExt S4 S7 := by rw [eS7]; exact wkExt.rf
  refine wk_aload_n C dX10_init_15 rfl rfl ?_
  refine wk_bipush C (v := 6) dX10_init_16 (by decide) ?_
  obtain ⟨h8a, h8b, h8c, h8d, h⟩ := h
  refine wk_newI C hR (List.mem_of_getElem? (i := 5) rfl) h8a h8b h8c h8d dX10_init_18 (fun q9 h8e => ?_)
  obtain ⟨S10, eS10, h⟩ := wkLt_some (h q9 h8e)
  rw [← eS10]
  obtain ⟨hXS10, hIS10⟩ := wkExt_newI eS10 h8e
  have hWS10 : wkTT S10 := trivial
  obtain ⟨S11, eS11, h⟩ := wkLt_some h
  refine wk_putF C hI0 (S' := S11) huX10_init_10 (hXS10 _ _ (hXS7 _ _ (hXS4 _ _ hl0A))).1 (fun cy => wAt_10 cy _ (hXS10 _ _ (hXS7 _ _ (hXS4 _ _ hl0A))).2) rfl 1 (by decide) (List.mem_of_getElem? (i := 7) rfl) rfl tyX10_ok nmX10 rfl rfl (ty := (.array .int)) rfl rfl rfl (by show 1 < 12; decide) (fun cy b => by rw [eS11]; exact wSt_10_1 cy _ (hXS10 _ _ (hXS7 _ _ (hXS4 _ _ hl0A))).2 (some q9) b) (by rw [eS11]) dX10_init_20 ?_
  have hWS11 : wkTT S11 := trivial
  have hXS11 : wkExt S10 S11 := by rw [eS11]; exact wkExt.rf
  refine wk_aload_n C dX10_init_23 rfl rfl ?_
  refine wk_bipush C (v := 6) dX10_init_24 (by decide) ?_
  obtain ⟨h12a, h12b, h12c, h12d, h⟩ := h
  refine wk_newI C hR (List.mem_of_getElem? (i := 5) rfl) h12a h12b h12c h12d dX10_init_26 (fun q13 h12e => ?_)
  obtain ⟨S14, eS14, h⟩ := wkLt_some (h q13 h12e)
  rw [← eS14]
  obtain ⟨hXS14, hIS14⟩ := wkExt_newI eS14 h12e
  have hWS14 : wkTT S14 := trivial
  obtain ⟨S15, eS15, h⟩ := wkLt_some h
  refine wk_putF C hI0 (S' := S15) huX10_init_10 (hXS14 _ _ (hXS11 _ _ (hXS10 _ _ (hXS7 _ _ (hXS4 _ _ hl0A))))).1 (fun cy => wAt_10 cy _ (hXS14 _ _ (hXS11 _ _ (hXS10 _ _ (hXS7 _ _ (hXS4 _ _ hl0A))))).2) rfl 2 (by decide) (List.mem_of_getElem? (i := 8) rfl) rfl tyX10_ok nmX10 rfl rfl (ty := (.array .int)) rfl rfl rfl (by show 2 < 12; decide) (fun cy b => by rw [eS15]; exact wSt_10_2 cy _ (hXS14 _ _ (hXS11 _ _ (hXS10 _ _ (hXS7 _ _ (hXS4 _ _ hl0A))))).2 (some q13) b) (by rw [eS15]) dX10_init_28 ?_
  have hWS15 : wkTT S15 := trivial
  have hXS15 : wkExt S14 S15 := by rw [eS15]; exact wkExt.rf
  refine wk_aload_n C dX10_init_31 rfl rfl ?_
  refine wk_bipush C (v := 6) dX10_init_32 (by decide) ?_
  obtain ⟨h16a, h16b, h16c, h16d, h⟩ := h
  refine wk_newI C hR (List.mem_of_getElem? (i := 5) rfl) h16a h16b h16c h16d dX10_init_34 (fun q17 h16e => ?_)
  obtain ⟨S18, eS18, h⟩ := wkLt_some (h q17 h16e)
  rw [← eS18]
  obtain ⟨hXS18, hIS18⟩ := wkExt_newI eS18 h16e
  have hWS18 : wkTT S18 := trivial
  obtain ⟨S19, eS19, h⟩ := wkLt_some h
  refine wk_putF C hI0 (S' := S19) huX10_init_10 (hXS18 _ _ (hXS15 _ _ (hXS14 _ _ (hXS11 _ _ (hXS10 _ _ (hXS7 _ _ (hXS4 _ _ hl0A))))))).1 (fun cy => wAt_10 cy _ (hXS18 _ _ (hXS15 _ _ (hXS14 _ _ (hXS11 _ _ (hXS10 _ _ (hXS7 _ _ (hXS4 _ _ hl0A))))))).2) rfl 3 (by decide) (List.mem_of_getElem? (i := 9) rfl) rfl tyX10_ok nmX10 rfl rfl (ty := (.array .int)) rfl rfl rfl (by show 3 < 12; decide) (fun cy b => by rw [eS19]; exact wSt_10_3 cy _ (hXS18 _ _ (hXS15 _ _ (hXS14 _ _ (hXS11 _ _ (hXS10 _ _ (hXS7 _ _ (hXS4 _ _ hl0A))))))).2 (some q17) b) (by rw [eS19]) dX10_init_36 ?_
  have hWS19 : wkTT S19 := trivial
  have hXS19 : wkExt S18 S19 := by rw [eS19]; exact wkExt.rf
  refine wk_aload_n C dX10_init_39 rfl rfl ?_
  refine wk_sipush C (v := 720) dX10_init_40 (by decide) ?_
  obtain ⟨h20a, h20b, h20c, h20d, h⟩ := h
  refine wk_newI C hR (List.mem_of_getElem? (i := 5) rfl) h20a h20b h20c h20d dX10_init_43 (fun q21 h20e => ?_)
  obtain ⟨S22, eS22, h⟩ := wkLt_some (h q21 h20e)
  rw [← eS22]
  obtain ⟨hXS22, hIS22⟩ := wkExt_newI eS22 h20e
  have hWS22 : wkTT S22 := trivial
  obtain ⟨S23, eS23, h⟩ := wkLt_some h
  refine wk_putF C hI0 (S' := S23) huX10_init_10 (hXS22 _ _ (hXS19 _ _ (hXS18 _ _ (hXS15 _ _ (hXS14 _ _ (hXS11 _ _ (hXS10 _ _ (hXS7 _ _ (hXS4 _ _ hl0A))))))))).1 (fun cy => wAt_10 cy _ (hXS22 _ _ (hXS19 _ _ (hXS18 _ _ (hXS15 _ _ (hXS14 _ _ (hXS11 _ _ (hXS10 _ _ (hXS7 _ _ (hXS4 _ _ hl0A))))))))).2) rfl 4 (by decide) (List.mem_of_getElem? (i := 10) rfl) rfl tyX10_ok nmX10 rfl rfl (ty := (.array .int)) rfl rfl rfl (by show 4 < 12; decide) (fun cy b => by rw [eS23]; exact wSt_10_4 cy _ (hXS22 _ _ (hXS19 _ _ (hXS18 _ _ (hXS15 _ _ (hXS14 _ _ (hXS11 _ _ (hXS10 _ _ (hXS7 _ _ (hXS4 _ _ hl0A))))))))).2 (some q21) b) (by rw [eS23]) dX10_init_45 ?_
  have hWS23 : wkTT S23 := trivial
  have hXS23 : wkExt S22 S23 := by rw [eS23]; exact wkExt.rf
  refine wk_aload_n C dX10_init_48 rfl rfl ?_
  refine wk_sipush C (v := 720) dX10_init_49 (by decide) ?_
  obtain ⟨h24a, h24b, h24c, h24d, h⟩ := h
  refine wk_newI C hR (List.mem_of_getElem? (i := 5) rfl) h24a h24b h24c h24d dX10_init_52 (fun q25 h24e => ?_)
  obtain ⟨S26, eS26, h⟩ := wkLt_some (h q25 h24e)
  rw [← eS26]
  obtain ⟨hXS26, hIS26⟩ := wkExt_newI eS26 h24e
  have hWS26 : wkTT S26 := trivial
  obtain ⟨S27, eS27, h⟩ := wkLt_some h
  refine wk_putF C hI0 (S' := S27) huX10_init_10 (hXS26 _ _ (hXS23 _ _ (hXS22 _ _ (hXS19 _ _ (hXS18 _ _ (hXS15 _ _ (hXS14 _ _ (hXS11 _ _ (hXS10 _ _ (hXS7 _ _ (hXS4 _ _ hl0A))))))))))).1 (fun cy => wAt_10 cy _ (hXS26 _ _ (hXS23 _ _ (hXS22 _ _ (hXS19 _ _ (hXS18 _ _ (hXS15 _ _ (hXS14 _ _ (hXS11 _ _ (hXS10 _ _ (hXS7 _ _ (hXS4 _ _ hl0A))))))))))).2) rfl 5 (by decide) (List.mem_of_getElem? (i := 11) rfl) rfl tyX10_ok nmX10 rfl rfl (ty := (.array .int)) rfl rfl rfl (by show 5 < 12; decide) (fun cy b => by rw [eS27]; exact wSt_10_5 cy _ (hXS26 _ _ (hXS23 _ _ (hXS22 _ _ (hXS19 _ _ (hXS18 _ _ (hXS15 _ _ (hXS14 _ _ (hXS11 _ _ (hXS10 _ _ (hXS7 _ _ (hXS4 _ _ hl0A))))))))))).2 (some q25) b) (by rw [eS27]) dX10_init_54 ?_
  have hWS27 : wkTT S27 := trivial
  have hXS27 : wkExt S26 S27 := by rw [eS27]; exact wkExt.rf
  refine wk_aload_n C dX10_init_57 rfl rfl ?_
  refine wk_sipush C (v := 720) dX10_init_58 (by decide) ?_
  obtain ⟨h28a, h28b, h28c, h28d, h⟩ := h
  refine wk_newI C hR (List.mem_of_getElem? (i := 5) rfl) h28a h28b h28c h28d dX10_init_61 (fun q29 h28e => ?_)
  obtain ⟨S30, eS30, h⟩ := wkLt_some (h q29 h28e)
  rw [← eS30]
  obtain ⟨hXS30, hIS30⟩ := wkExt_newI eS30 h28e
  have hWS30 : wkTT S30 := trivial
  obtain ⟨S31, eS31, h⟩ := wkLt_some h
  refine wk_putF C hI0 (S' := S31) huX10_init_10 (hXS30 _ _ (hXS27 _ _ (hXS26 _ _ (hXS23 _ _ (hXS22 _ _ (hXS19 _ _ (hXS18 _ _ (hXS15 _ _ (hXS14 _ _ (hXS11 _ _ (hXS10 _ _ (hXS7 _ _ (hXS4 _ _ hl0A))))))))))))).1 (fun cy => wAt_10 cy _ (hXS30 _ _ (hXS27 _ _ (hXS26 _ _ (hXS23 _ _ (hXS22 _ _ (hXS19 _ _ (hXS18 _ _ (hXS15 _ _ (hXS14 _ _ (hXS11 _ _ (hXS10 _ _ (hXS7 _ _ (hXS4 _ _ hl0A))))))))))))).2) rfl 6 (by decide) (List.mem_of_getElem? (i := 12) rfl) rfl tyX10_ok nmX10 rfl rfl (ty := (.array .int)) rfl rfl rfl (by show 6 < 12; decide) (fun cy b => by rw [eS31]; exact wSt_10_6 cy _ (hXS30 _ _ (hXS27 _ _ (hXS26 _ _ (hXS23 _ _ (hXS22 _ _ (hXS19 _ _ (hXS18 _ _ (hXS15 _ _ (hXS14 _ _ (hXS11 _ _ (hXS10 _ _ (hXS7 _ _ (hXS4 _ _ hl0A))))))))))))).2 (some q29) b) (by rw [eS31]) dX10_init_63 ?_
  have hWS31 : wkTT S31 := trivial
  have hXS31 : wkExt S30 S31 := by rw [eS31]; exact wkExt.rf
  refine wk_aload_n C dX10_init_66 rfl rfl ?_
  refine wk_sipush C (v := 256) dX10_init_67 (by decide) ?_
  obtain ⟨h32a, h32b, h32c, h32d, h⟩ := h
  refine wk_newI C hR (List.mem_of_getElem? (i := 5) rfl) h32a h32b h32c h32d dX10_init_70 (fun q33 h32e => ?_)
  obtain ⟨S34, eS34, h⟩ := wkLt_some (h q33 h32e)
  rw [← eS34]
  obtain ⟨hXS34, hIS34⟩ := wkExt_newI eS34 h32e
  have hWS34 : wkTT S34 := trivial
  obtain ⟨S35, eS35, h⟩ := wkLt_some h
  refine wk_putF C hI0 (S' := S35) huX10_init_10 (hXS34 _ _ (hXS31 _ _ (hXS30 _ _ (hXS27 _ _ (hXS26 _ _ (hXS23 _ _ (hXS22 _ _ (hXS19 _ _ (hXS18 _ _ (hXS15 _ _ (hXS14 _ _ (hXS11 _ _ (hXS10 _ _ (hXS7 _ _ (hXS4 _ _ hl0A))))))))))))))).1 (fun cy => wAt_10 cy _ (hXS34 _ _ (hXS31 _ _ (hXS30 _ _ (hXS27 _ _ (hXS26 _ _ (hXS23 _ _ (hXS22 _ _ (hXS19 _ _ (hXS18 _ _ (hXS15 _ _ (hXS14 _ _ (hXS11 _ _ (hXS10 _ _ (hXS7 _ _ (hXS4 _ _ hl0A))))))))))))))).2) rfl 7 (by decide) (List.mem_of_getElem? (i := 13) rfl) rfl tyX10_ok nmX10 rfl rfl (ty := (.array .int)) rfl rfl rfl (by show 7 < 12; decide) (fun cy b => by rw [eS35]; exact wSt_10_7 cy _ (hXS34 _ _ (hXS31 _ _ (hXS30 _ _ (hXS27 _ _ (hXS26 _ _ (hXS23 _ _ (hXS22 _ _ (hXS19 _ _ (hXS18 _ _ (hXS15 _ _ (hXS14 _ _ (hXS11 _ _ (hXS10 _ _ (hXS7 _ _ (hXS4 _ _ hl0A))))))))))))))).2 (some q33) b) (by rw [eS35]) dX10_init_72 ?_
  have hWS35 : wkTT S35 := trivial
  have hXS35 : wkExt S34 S35 := by rw [eS35]; exact wkExt.rf
  refine wk_aload_n C dX10_init_75 rfl rfl ?_
  refine wk_bipush C (v := 96) dX10_init_76 (by decide) ?_
  obtain ⟨h36a, h36b, h36c, h36d, h⟩ := h
  refine wk_newI C hR (List.mem_of_getElem? (i := 5) rfl) h36a h36b h36c h36d dX10_init_78 (fun q37 h36e => ?_)
  obtain ⟨S38, eS38, h⟩ := wkLt_some (h q37 h36e)
  rw [← eS38]
  obtain ⟨hXS38, hIS38⟩ := wkExt_newI eS38 h36e
  have hWS38 : wkTT S38 := trivial
  obtain ⟨S39, eS39, h⟩ := wkLt_some h
  refine wk_putF C hI0 (S' := S39) huX10_init_10 (hXS38 _ _ (hXS35 _ _ (hXS34 _ _ (hXS31 _ _ (hXS30 _ _ (hXS27 _ _ (hXS26 _ _ (hXS23 _ _ (hXS22 _ _ (hXS19 _ _ (hXS18 _ _ (hXS15 _ _ (hXS14 _ _ (hXS11 _ _ (hXS10 _ _ (hXS7 _ _ (hXS4 _ _ hl0A))))))))))))))))).1 (fun cy => wAt_10 cy _ (hXS38 _ _ (hXS35 _ _ (hXS34 _ _ (hXS31 _ _ (hXS30 _ _ (hXS27 _ _ (hXS26 _ _ (hXS23 _ _ (hXS22 _ _ (hXS19 _ _ (hXS18 _ _ (hXS15 _ _ (hXS14 _ _ (hXS11 _ _ (hXS10 _ _ (hXS7 _ _ (hXS4 _ _ hl0A))))))))))))))))).2) rfl 8 (by decide) (List.mem_of_getElem? (i := 14) rfl) rfl tyX10_ok nmX10 rfl rfl (ty := (.array .int)) rfl rfl rfl (by show 8 < 12; decide) (fun cy b => by rw [eS39]; exact wSt_10_8 cy _ (hXS38 _ _ (hXS35 _ _ (hXS34 _ _ (hXS31 _ _ (hXS30 _ _ (hXS27 _ _ (hXS26 _ _ (hXS23 _ _ (hXS22 _ _ (hXS19 _ _ (hXS18 _ _ (hXS15 _ _ (hXS14 _ _ (hXS11 _ _ (hXS10 _ _ (hXS7 _ _ (hXS4 _ _ hl0A))))))))))))))))).2 (some q37) b) (by rw [eS39]) dX10_init_80 ?_
  have hWS39 : wkTT S39 := trivial
  have hXS39 : wkExt S38 S39 := by rw [eS39]; exact wkExt.rf
  exact E _ _ _ _ _ h36b h36c dX10_init_83 ⟨(), rfl, h, hWS39, (wkExt.tr (wkExt.tr (wkExt.tr (wkExt.tr (wkExt.tr (wkExt.tr (wkExt.tr (wkExt.tr (wkExt.tr (wkExt.tr (wkExt.tr (wkExt.tr (wkExt.tr (wkExt.tr (wkExt.tr (wkExt.tr (wkExt.tr (wkExt.tr hE hXS4) hXS7) hXS10) hXS11) hXS14) hXS15) hXS18) hXS19) hXS22) hXS23) hXS26) hXS27) hXS30) hXS31) hXS34) hXS35) hXS38) hXS39)⟩
