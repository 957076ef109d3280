def rX9_clear (F : Nat) (l0A : Nat) (S : wPS) (Φ : (Unit → wPS → Prop)) : Prop :=
  wkLt (wu_Row_count S l0A 0) fun S1 => Φ () S1
set_option maxHeartbeats 4000000 in
set_option maxRecDepth 100000 in
theorem tX9_clear {l : Launch} {F : Nat} {S : wPS} {l0A : Nat} {Φ : (Unit → wPS → Prop)} (hW : wkWF S) (hl0A : wkIs S l0A 9) (h : rX9_clear F l0A S Φ) : wkMet l yX9_clear wsX9_clear 0 0 0 [.ref l0A] S (fun v' S'' => ∃ v : Unit, v' = none ∧ Φ v S'' ∧ wkWF S'' ∧ wkExt S S'') := by
  refine wkMet_of (ret := none) (by decide) rfl (Nat.le_of_ble_eq_true rfl) (fun X C hR E => ?_)
  have hE : wkExt S S := wkExt.rf
  have hd : 0 ≤ 0 := Nat.le_refl _
  show wkGo l X 1 0 0 0 S [some (.ref l0A)] []
  unfold rX9_clear at h
  refine wk_aload_n C dX9_clear_0 rfl rfl ?_
  refine wk_iconst C (v := 0) dX9_clear_1 (by decide) ?_
  obtain ⟨S1, eS1, h⟩ := wkLt_some h
  refine wk_put C (S' := S1) (fun w h => List.mem_cons_of_mem _ (by first | exact List.mem_append_right _ h | exact List.mem_append_left _ (List.mem_append_right _ h) | exact List.mem_append_left _ (List.mem_append_left _ (List.mem_append_right _ h)) | exact List.mem_append_left _ (List.mem_append_left _ (List.mem_append_left _ (List.mem_append_right _ h))))) hl0A.1 (fun cy => wAt_9 cy _ hl0A.2) rfl 1 (by decide) (List.mem_of_getElem? (i := 1) rfl) rfl tyX9_ok nmX9 rfl (ty := .int) rfl rfl rfl (by show 1 < 2; decide) (fun cy b => by rw [eS1]; exact wSt_9_1 cy _ hl0A.2 _ b) (by rw [eS1]) dX9_clear_2 ?_
  have hWS1 : wkWF S1 := by rw [eS1]; exact hW
  have hXS1 : wkExt S S1 := by rw [eS1]; exact wkExt.rf
  exact E _ _ _ _ _ (Nat.le_refl 0) (Nat.le_refl 0) dX9_clear_5 ⟨(), rfl, h, hWS1, (wkExt.tr hE hXS1)⟩
def rX9_at (F : Nat) (l0A : Nat) (l1I : Int32) (S : wPS) (Φ : (Int32 → wPS → Prop)) : Prop :=
  if l1I < 0 then (Φ 0 S) else (if (gRow_count S l0A) ≤ l1I then (Φ 0 S) else (¬ (l1I < 0 ∨ S.len (wkAd (gRow_numbers S l0A)) ≤ (l1I).toNatClampNeg) ∧ Φ (S.rI (wkAd (gRow_numbers S l0A)) (l1I).toNatClampNeg) S))
set_option maxHeartbeats 4000000 in
set_option maxRecDepth 100000 in
theorem tX9_at {l : Launch} {F : Nat} {S : wPS} {l0A : Nat} {l1I : Int32} {Φ : (Int32 → wPS → Prop)} (hW : wkWF S) (hl0A : wkIs S l0A 9) (h : rX9_at F l0A l1I S Φ) : wkMet l yX9_at wsX9_at 0 0 0 [.ref l0A, .int l1I] S (fun v' S'' => ∃ v : Int32, v' = some (.int v) ∧ Φ v S'' ∧ wkWF S'' ∧ wkExt S S'') := by
  refine wkMet_of (ret := (some .int)) (by decide) rfl (Nat.le_of_ble_eq_true rfl) (fun X C hR E => ?_)
  have hE : wkExt S S := wkExt.rf
  have hd : 0 ≤ 0 := Nat.le_refl _
  show wkGo l X 2 0 0 0 S [some (.ref l0A), some (.int l1I)] []
  unfold rX9_at at h
  refine wk_iload_n C dX9_at_0 rfl rfl ?_
  refine wk_if_lt C (tgt := 21) dX9_at_1 (by decide) (fun c1 => ?_) (fun c1 => ?_)
  · rw [if_pos c1] at h
    refine wk_iconst C (v := 0) dX9_at_21 (by decide) ?_
    exact E _ _ _ _ _ _ (Nat.le_refl 0) (Nat.le_refl 0) dX9_at_22 ⟨0, rfl, h, hW, hE⟩
  · rw [if_neg c1] at h
    refine wk_iload_n C dX9_at_4 rfl rfl ?_
    refine wk_aload_n C dX9_at_5 rfl rfl ?_
    refine wk_get C (v := .int (gRow_count S l0A)) (fun w h => List.mem_cons_of_mem _ (by first | exact List.mem_append_right _ h | exact List.mem_append_left _ (List.mem_append_right _ h) | exact List.mem_append_left _ (List.mem_append_left _ (List.mem_append_right _ h)) | exact List.mem_append_left _ (List.mem_append_left _ (List.mem_append_left _ (List.mem_append_right _ h))))) hl0A.1 (fun cy => wAt_9 cy _ hl0A.2) rfl 1 (by decide) (List.mem_of_getElem? (i := 1) rfl) rfl rfl dX9_at_6 ?_
    refine wk_icmp_ge C (tgt := 21) dX9_at_9 (by decide) (fun c2 => ?_) (fun c2 => ?_)
    · rw [if_pos c2] at h
      refine wk_iconst C (v := 0) dX9_at_21 (by decide) ?_
      exact E _ _ _ _ _ _ (Nat.le_refl 0) (Nat.le_refl 0) dX9_at_22 ⟨0, rfl, h, hW, hE⟩
    · rw [if_neg c2] at h
      refine wk_aload_n C dX9_at_12 rfl rfl ?_
      refine wk_get C (fun w h => List.mem_cons_of_mem _ (by first | exact List.mem_append_right _ h | exact List.mem_append_left _ (List.mem_append_right _ h) | exact List.mem_append_left _ (List.mem_append_left _ (List.mem_append_right _ h)) | exact List.mem_append_left _ (List.mem_append_left _ (List.mem_append_left _ (List.mem_append_right _ h))))) hl0A.1 (fun cy => wAt_9 cy _ hl0A.2) rfl 0 (by decide) (List.mem_of_getElem? (i := 2) rfl) rfl (congrArg some (congrArg va_rf (wf_Row_numbers hW hl0A).1)) dX9_at_13 ?_
      refine wk_iload_n C dX9_at_16 rfl rfl ?_
      obtain ⟨i3, h⟩ := h
      refine wk_iald C (wf_Row_numbers hW hl0A).2.1 (wf_Row_numbers hW hl0A).2.2 i3 rfl dX9_at_17 ?_
      refine wk_goto C (tgt := 22) dX9_at_18 (by decide) ?_
      exact E _ _ _ _ _ _ (Nat.le_refl 0) (Nat.le_refl 0) dX9_at_22 ⟨(S.rI (wkAd (gRow_numbers S l0A)) (l1I).toNatClampNeg), rfl, h, hW, hE⟩
def rX9_set (F : Nat) (l0A : Nat) (l1I : Int32) (l2I : Int32) (S : wPS) (Φ : (Unit → wPS → Prop)) : Prop :=
  if l1I < 0 then (Φ () S) else (if (gRow_count S l0A) ≤ l1I then (Φ () S) else (¬ (l1I < 0 ∨ S.len (wkAd (gRow_numbers S l0A)) ≤ (l1I).toNatClampNeg) ∧ wkLt (wuI S (wkAd (gRow_numbers S l0A)) l1I l2I) fun S4 => Φ () S4))
set_option maxHeartbeats 4000000 in
set_option maxRecDepth 100000 in
theorem tX9_set {l : Launch} {F : Nat} {S : wPS} {l0A : Nat} {l1I : Int32} {l2I : Int32} {Φ : (Unit → wPS → Prop)} (hW : wkWF S) (hl0A : wkIs S l0A 9) (h : rX9_set F l0A l1I l2I S Φ) : wkMet l yX9_set wsX9_set 0 0 0 [.ref l0A, .int l1I, .int l2I] S (fun v' S'' => ∃ v : Unit, v' = none ∧ Φ v S'' ∧ wkWF S'' ∧ wkExt S S'') := by
  refine wkMet_of (ret := none) (by decide) rfl (Nat.le_of_ble_eq_true rfl) (fun X C hR E => ?_)
  have hE : wkExt S S := wkExt.rf
  have hd : 0 ≤ 0 := Nat.le_refl _
  show wkGo l X 3 0 0 0 S [some (.ref l0A), some (.int l1I), some (.int l2I)] []
  unfold rX9_set at h
  refine wk_iload_n C dX9_set_0 rfl rfl ?_
  refine wk_if_lt C (tgt := 19) dX9_set_1 (by decide) (fun c1 => ?_) (fun c1 => ?_)
  · rw [if_pos c1] at h
    exact E _ _ _ _ _ (Nat.le_refl 0) (Nat.le_refl 0) dX9_set_19 ⟨(), rfl, h, hW, hE⟩
  · rw [if_neg c1] at h
    refine wk_iload_n C dX9_set_4 rfl rfl ?_
    refine wk_aload_n C dX9_set_5 rfl rfl ?_
    refine wk_get C (v := .int (gRow_count S l0A)) (fun w h => List.mem_cons_of_mem _ (by first | exact List.mem_append_right _ h | exact List.mem_append_left _ (List.mem_append_right _ h) | exact List.mem_append_left _ (List.mem_append_left _ (List.mem_append_right _ h)) | exact List.mem_append_left _ (List.mem_append_left _ (List.mem_append_left _ (List.mem_append_right _ h))))) hl0A.1 (fun cy => wAt_9 cy _ hl0A.2) rfl 1 (by decide) (List.mem_of_getElem? (i := 1) rfl) rfl rfl dX9_set_6 ?_
    refine wk_icmp_ge C (tgt := 19) dX9_set_9 (by decide) (fun c2 => ?_) (fun c2 => ?_)
    · rw [if_pos c2] at h
      exact E _ _ _ _ _ (Nat.le_refl 0) (Nat.le_refl 0) dX9_set_19 ⟨(), rfl, h, hW, hE⟩
    · rw [if_neg c2] at h
      refine wk_aload_n C dX9_set_12 rfl rfl ?_
      refine wk_get C (fun w h => List.mem_cons_of_mem _ (by first | exact List.mem_append_right _ h | exact List.mem_append_left _ (List.mem_append_right _ h) | exact List.mem_append_left _ (List.mem_append_left _ (List.mem_append_right _ h)) | exact List.mem_append_left _ (List.mem_append_left _ (List.mem_append_left _ (List.mem_append_right _ h))))) hl0A.1 (fun cy => wAt_9 cy _ hl0A.2) rfl 0 (by decide) (List.mem_of_getElem? (i := 2) rfl) rfl (congrArg some (congrArg va_rf (wf_Row_numbers hW hl0A).1)) dX9_set_13 ?_
      refine wk_iload_n C dX9_set_16 rfl rfl ?_
      refine wk_iload_n C dX9_set_17 rfl rfl ?_
      obtain ⟨i3, h⟩ := h
      obtain ⟨S4, eS4, h⟩ := wkLt_some h
      refine wk_iast C (wf_Row_numbers hW hl0A).2.1 (wf_Row_numbers hW hl0A).2.2 i3 eS4.symm dX9_set_18 ?_
      have hWS4 : wkWF S4 := by rw [eS4]; exact hW
      have hXS4 : wkExt S S4 := by rw [eS4]; exact wkExt.rf
      exact E _ _ _ _ _ (Nat.le_refl 0) (Nat.le_refl 0) dX9_set_19 ⟨(), rfl, h, hWS4, (wkExt.tr hE hXS4)⟩
def rX9_firstUnlike_b0 (F : Nat) (rec : Nat → Nat → Nat → Int32 → Int32 → wPS → (Int32 → wPS → Prop) → Prop) (l0A : Nat) (l1A : Nat) (l2I : Int32) (l3I : Int32) (S : wPS) (Φ : (Int32 → wPS → Prop)) : Prop :=
  if l2I ≤ l3I then (Φ l2I S) else (¬ (l3I < 0 ∨ S.len (wkAd (gRow_numbers S l0A)) ≤ (l3I).toNatClampNeg) ∧ ¬ (l3I < 0 ∨ S.len (wkAd (gRow_numbers S l1A)) ≤ (l3I).toNatClampNeg) ∧ if (S.rI (wkAd (gRow_numbers S l0A)) (l3I).toNatClampNeg) = (S.rI (wkAd (gRow_numbers S l1A)) (l3I).toNatClampNeg) then (wkLt (l3I + 1) fun x5 => rec 0 l0A l1A l2I x5 S Φ) else (Φ l3I S))
def rX9_firstUnlike_go (F : Nat) : Nat → Nat → Nat → Nat → Int32 → Int32 → wPS → (Int32 → wPS → Prop) → Prop
  | 0, _, _, _, _, _, _, _ => False
  | k + 1, lab, l0A, l1A, l2I, l3I, S, Φ => if lab = 0 then rX9_firstUnlike_b0 F (rX9_firstUnlike_go F k) l0A l1A l2I l3I S Φ else False
def rX9_firstUnlike_s (F : Nat) (rec : Nat → Nat → Nat → Int32 → Int32 → wPS → (Int32 → wPS → Prop) → Prop) (l0A : Nat) (l1A : Nat) (S : wPS) (Φ : (Int32 → wPS → Prop)) : Prop :=
  wkLt ((if (gRow_count S l1A) < (gRow_count S l0A) then (gRow_count S l1A) else (gRow_count S l0A))) fun x6 => rec 0 l0A l1A x6 0 S Φ
def rX9_firstUnlike (F : Nat) (l0A : Nat) (l1A : Nat) (S : wPS) (Φ : (Int32 → wPS → Prop)) : Prop := rX9_firstUnlike_s F (rX9_firstUnlike_go F F) l0A l1A S Φ
set_option maxHeartbeats 4000000 in
set_option maxRecDepth 100000 in
theorem tX9_firstUnlike_go {l : Launch} {X : wkX} {d F : Nat} {S0 : wPS} {Φ : (Int32 → wPS → Prop)} (C : wkC X cX9_firstUnlike RX9 4 wsX9_firstUnlike) (hR : wkRm X d 0 0) (hd : 1 ≤ d) (E : wkEnd l X cX9_firstUnlike 4 (some .int) 0 0 (fun v' S'' => ∃ v : Int32, v' = some (.int v) ∧ Φ v S'' ∧ wkWF S'' ∧ wkExt S0 S'')) : ∀ k : Nat, (∀ (l0A : Nat) (l1A : Nat) (l2I : Int32) (l3I : Int32) (S : wPS), wkWF S → wkExt S0 S → wkIs S l0A 9 → wkIs S l1A 9 → rX9_firstUnlike_go F k 0 l0A l1A l2I l3I S Φ → wkGo l X 4 0 0 14 S [some (.ref l0A), some (.ref l1A), some (.int l2I), some (.int l3I)] []) := by
  intro k
  induction k with
  | zero => exact fun l0A l1A l2I l3I S hW hE hl0A hl1A h => h.elim
  | succ k ih =>
    · intro l0A l1A l2I l3I S hW hE hl0A hl1A h
      have h : rX9_firstUnlike_b0 F (rX9_firstUnlike_go F k) l0A l1A l2I l3I S Φ := h
      unfold rX9_firstUnlike_b0 at h
      refine wk_iload_n C dX9_firstUnlike_14 rfl rfl ?_
      refine wk_iload_n C dX9_firstUnlike_15 rfl rfl ?_
      refine wk_icmp_ge C (tgt := 42) dX9_firstUnlike_16 (by decide) (fun c1 => ?_) (fun c1 => ?_)
      · rw [if_pos c1] at h
        refine wk_iload_n C dX9_firstUnlike_42 rfl rfl ?_
        exact E _ _ _ _ _ _ (Nat.le_refl 0) (Nat.le_refl 0) dX9_firstUnlike_43 ⟨l2I, rfl, h, hW, hE⟩
      · rw [if_neg c1] at h
        refine wk_aload_n C dX9_firstUnlike_19 rfl rfl ?_
        refine wk_get C (fun w h => List.mem_cons_of_mem _ (by first | exact List.mem_append_right _ h | exact List.mem_append_left _ (List.mem_append_right _ h) | exact List.mem_append_left _ (List.mem_append_left _ (List.mem_append_right _ h)) | exact List.mem_append_left _ (List.mem_append_left _ (List.mem_append_left _ (List.mem_append_right _ h))))) hl0A.1 (fun cy => wAt_9 cy _ hl0A.2) rfl 0 (by decide) (List.mem_of_getElem? (i := 6) rfl) rfl (congrArg some (congrArg va_rf (wf_Row_numbers hW hl0A).1)) dX9_firstUnlike_20 ?_
        refine wk_iload_n C dX9_firstUnlike_23 rfl rfl ?_
        obtain ⟨i2, h⟩ := h
        refine wk_iald C (wf_Row_numbers hW hl0A).2.1 (wf_Row_numbers hW hl0A).2.2 i2 rfl dX9_firstUnlike_24 ?_
        refine wk_aload_n C dX9_firstUnlike_25 rfl rfl ?_
        refine wk_get C (fun w h => List.mem_cons_of_mem _ (by first | exact List.mem_append_right _ h | exact List.mem_append_left _ (List.mem_append_right _ h) | exact List.mem_append_left _ (List.mem_append_left _ (List.mem_append_right _ h)) | exact List.mem_append_left _ (List.mem_append_left _ (List.mem_append_left _ (List.mem_append_right _ h))))) hl1A.1 (fun cy => wAt_9 cy _ hl1A.2) rfl 0 (by decide) (List.mem_of_getElem? (i := 6) rfl) rfl (congrArg some (congrArg va_rf (wf_Row_numbers hW hl1A).1)) dX9_firstUnlike_26 ?_
        refine wk_iload_n C dX9_firstUnlike_29 rfl rfl ?_
        obtain ⟨i3, h⟩ := h
        refine wk_iald C (wf_Row_numbers hW hl1A).2.1 (wf_Row_numbers hW hl1A).2.2 i3 rfl dX9_firstUnlike_30 ?_
        refine wk_icmp_eq C (tgt := 36) dX9_firstUnlike_31 (by decide) (fun c4 => ?_) (fun c4 => ?_)
        · rw [if_pos c4] at h
          obtain ⟨x5, ex5, h⟩ := wkLt_some h
          refine wk_iinc C (lv' := [some (.ref l0A), some (.ref l1A), some (.int l2I), some (.int x5)]) dX9_firstUnlike_36 rfl (by rw [ex5]; rfl) (by decide) rfl ?_
          refine wk_goto C (tgt := 14) dX9_firstUnlike_39 (by decide) ?_
          exact wk_forget (lv' := [some (.ref l0A), some (.ref l1A), some (.int l2I), some (.int x5)]) (wkLs.le ⟨rfl, rfl, rfl, rfl, trivial⟩) (ih _ _ _ _ _ hW hE hl0A hl1A h)
        · rw [if_neg c4] at h
          refine wk_iload_n C dX9_firstUnlike_34 rfl rfl ?_
          exact E _ _ _ _ _ _ (Nat.le_refl 0) (Nat.le_refl 0) dX9_firstUnlike_35 ⟨l3I, rfl, h, hW, hE⟩
set_option maxHeartbeats 4000000 in
set_option maxRecDepth 100000 in
theorem tX9_firstUnlike {l : Launch} {F : Nat} {S : wPS} {l0A : Nat} {l1A : Nat} {Φ : (Int32 → wPS → Prop)} (hW : wkWF S) (hl0A : wkIs S l0A 9) (hl1A : wkIs S l1A 9) (h : rX9_firstUnlike F l0A l1A S Φ) : wkMet l yX9_firstUnlike wsX9_firstUnlike 1 0 0 [.ref l0A, .ref l1A] S (fun v' S'' => ∃ v : Int32, v' = some (.int v) ∧ Φ v S'' ∧ wkWF S'' ∧ wkExt S S'') := by
  refine wkMet_of (ret := (some .int)) (by decide) rfl (Nat.le_of_ble_eq_true rfl) (fun X C hR E => ?_)
  have hE : wkExt S S := wkExt.rf
  have hd : 1 ≤ 1 := Nat.le_refl _
  show wkGo l X 4 0 0 0 S [some (.ref l0A), some (.ref l1A), none, none] []
  have ih := tX9_firstUnlike_go (F := F) C hR hd E F
  have h : rX9_firstUnlike_s F (rX9_firstUnlike_go F F) l0A l1A S Φ := h
  unfold rX9_firstUnlike_s at h
  refine wk_aload_n C dX9_firstUnlike_0 rfl rfl ?_
  refine wk_get C (v := .int (gRow_count S l0A)) (fun w h => List.mem_cons_of_mem _ (by first | exact List.mem_append_right _ h | exact List.mem_append_left _ (List.mem_append_right _ h) | exact List.mem_append_left _ (List.mem_append_left _ (List.mem_append_right _ h)) | exact List.mem_append_left _ (List.mem_append_left _ (List.mem_append_left _ (List.mem_append_right _ h))))) hl0A.1 (fun cy => wAt_9 cy _ hl0A.2) rfl 1 (by decide) (List.mem_of_getElem? (i := 1) rfl) rfl rfl dX9_firstUnlike_1 ?_
  refine wk_aload_n C dX9_firstUnlike_4 rfl rfl ?_
  refine wk_get C (v := .int (gRow_count S l1A)) (fun w h => List.mem_cons_of_mem _ (by first | exact List.mem_append_right _ h | exact List.mem_append_left _ (List.mem_append_right _ h) | exact List.mem_append_left _ (List.mem_append_left _ (List.mem_append_right _ h)) | exact List.mem_append_left _ (List.mem_append_left _ (List.mem_append_left _ (List.mem_append_right _ h))))) hl1A.1 (fun cy => wAt_9 cy _ hl1A.2) rfl 1 (by decide) (List.mem_of_getElem? (i := 1) rfl) rfl rfl dX9_firstUnlike_5 ?_
  refine wk_mmin C hR (List.mem_of_getElem? (i := 2) rfl) (List.mem_of_getElem? (i := 3) rfl) (List.mem_of_getElem? (i := 4) rfl) (List.mem_of_getElem? (i := 5) rfl) (Nat.le_trans (by decide) hd) (Nat.le_refl 0) (Nat.le_refl 0) (Nat.le_of_ble_eq_true rfl) rfl dX9_firstUnlike_8 ?_
  obtain ⟨x6, ex6, h⟩ := wkLt_some h
  refine wk_topi ex6 ?_
  refine wk_istore_n C (lv' := [some (.ref l0A), some (.ref l1A), some (.int x6), none]) dX9_firstUnlike_11 rfl (by decide) rfl ?_
  refine wk_iconst C (v := 0) dX9_firstUnlike_12 (by decide) ?_
  refine wk_istore_n C (lv' := [some (.ref l0A), some (.ref l1A), some (.int x6), some (.int 0)]) dX9_firstUnlike_13 rfl (by decide) rfl ?_
  exact wk_forget (lv' := [some (.ref l0A), some (.ref l1A), some (.int x6), some (.int 0)]) (wkLs.le ⟨rfl, rfl, rfl, rfl, trivial⟩) (ih _ _ _ _ _ hW hE hl0A hl1A h)
def rX9_total_b0 (F : Nat) (rec : Nat → Nat → Int64 → Int32 → wPS → (Int64 → wPS → Prop) → Prop) (l0A : Nat) (l1J : Int64) (l3I : Int32) (S : wPS) (Φ : (Int64 → wPS → Prop)) : Prop :=
  if (gRow_count S l0A) ≤ l3I then (Φ l1J S) else (¬ (l3I < 0 ∨ S.len (wkAd (gRow_numbers S l0A)) ≤ (l3I).toNatClampNeg) ∧ wkLt (((31 * l1J) + (Int32.toInt64 (S.rI (wkAd (gRow_numbers S l0A)) (l3I).toNatClampNeg)))) fun x3 => wkLt (l3I + 1) fun x4 => rec 0 l0A x3 x4 S Φ)
def rX9_total_go (F : Nat) : Nat → Nat → Nat → Int64 → Int32 → wPS → (Int64 → wPS → Prop) → Prop
  | 0, _, _, _, _, _, _ => False
  | k + 1, lab, l0A, l1J, l3I, S, Φ => if lab = 0 then rX9_total_b0 F (rX9_total_go F k) l0A l1J l3I S Φ else False
def rX9_total_s (F : Nat) (rec : Nat → Nat → Int64 → Int32 → wPS → (Int64 → wPS → Prop) → Prop) (l0A : Nat) (S : wPS) (Φ : (Int64 → wPS → Prop)) : Prop :=
  rec 0 l0A 7 0 S Φ
def rX9_total (F : Nat) (l0A : Nat) (S : wPS) (Φ : (Int64 → wPS → Prop)) : Prop := rX9_total_s F (rX9_total_go F F) l0A S Φ
set_option maxHeartbeats 4000000 in
set_option maxRecDepth 100000 in
theorem tX9_total_go {l : Launch} {X : wkX} {d F : Nat} {S0 : wPS} {Φ : (Int64 → wPS → Prop)} (C : wkC X cX9_total RX9 4 wsX9_total) (hR : wkRm X d 0 0) (hd : 0 ≤ d) (E : wkEnd l X cX9_total 4 (some .long) 0 0 (fun v' S'' => ∃ v : Int64, v' = some (.long v) ∧ Φ v S'' ∧ wkWF S'' ∧ wkExt S0 S'')) : ∀ k : Nat, (∀ (l0A : Nat) (l1J : Int64) (l3I : Int32) (S : wPS), wkWF S → wkExt S0 S → wkIs S l0A 9 → rX9_total_go F k 0 l0A l1J l3I S Φ → wkGo l X 4 0 0 6 S [some (.ref l0A), some (.long l1J), none, some (.int l3I)] []) := by
  intro k
  induction k with
  | zero => exact fun l0A l1J l3I S hW hE hl0A h => h.elim
  | succ k ih =>
    · intro l0A l1J l3I S hW hE hl0A h
      have h : rX9_total_b0 F (rX9_total_go F k) l0A l1J l3I S Φ := h
      unfold rX9_total_b0 at h
      refine wk_iload_n C dX9_total_6 rfl rfl ?_
      refine wk_aload_n C dX9_total_7 rfl rfl ?_
      refine wk_get C (v := .int (gRow_count S l0A)) (fun w h => List.mem_cons_of_mem _ (by first | exact List.mem_append_right _ h | exact List.mem_append_left _ (List.mem_append_right _ h) | exact List.mem_append_left _ (List.mem_append_left _ (List.mem_append_right _ h)) | exact List.mem_append_left _ (List.mem_append_left _ (List.mem_append_left _ (List.mem_append_right _ h))))) hl0A.1 (fun cy => wAt_9 cy _ hl0A.2) rfl 1 (by decide) (List.mem_of_getElem? (i := 2) rfl) rfl rfl dX9_total_8 ?_
      refine wk_icmp_ge C (tgt := 34) dX9_total_11 (by decide) (fun c1 => ?_) (fun c1 => ?_)
      · rw [if_pos c1] at h
        refine wk_lload_n C dX9_total_34 rfl rfl ?_
        exact E _ _ _ _ _ _ (Nat.le_refl 0) (Nat.le_refl 0) dX9_total_35 ⟨l1J, rfl, h, hW, hE⟩
      · rw [if_neg c1] at h
        refine wk_ldc2 C (v := 31) (List.mem_of_getElem? (i := 3) rfl) dX9_total_14 ?_
        refine wk_lload_n C dX9_total_17 rfl rfl ?_
        refine wk_lmul C dX9_total_18 rfl ?_
        refine wk_aload_n C dX9_total_19 rfl rfl ?_
        refine wk_get C (fun w h => List.mem_cons_of_mem _ (by first | exact List.mem_append_right _ h | exact List.mem_append_left _ (List.mem_append_right _ h) | exact List.mem_append_left _ (List.mem_append_left _ (List.mem_append_right _ h)) | exact List.mem_append_left _ (List.mem_append_left _ (List.mem_append_left _ (List.mem_append_right _ h))))) hl0A.1 (fun cy => wAt_9 cy _ hl0A.2) rfl 0 (by decide) (List.mem_of_getElem? (i := 4) rfl) rfl (congrArg some (congrArg va_rf (wf_Row_numbers hW hl0A).1)) dX9_total_20 ?_
        refine wk_iload_n C dX9_total_23 rfl rfl ?_
        obtain ⟨i2, h⟩ := h
        refine wk_iald C (wf_Row_numbers hW hl0A).2.1 (wf_Row_numbers hW hl0A).2.2 i2 rfl dX9_total_24 ?_
        refine wk_i2l C dX9_total_25 rfl ?_
        refine wk_ladd C dX9_total_26 rfl ?_
        obtain ⟨x3, ex3, h⟩ := wkLt_some h
        refine wk_topl ex3 ?_
        refine wk_lstore_n C (lv' := [some (.ref l0A), some (.long x3), none, some (.int l3I)]) dX9_total_27 rfl (by decide) rfl ?_
        obtain ⟨x4, ex4, h⟩ := wkLt_some h
        refine wk_iinc C (lv' := [some (.ref l0A), some (.long x3), none, some (.int x4)]) dX9_total_28 rfl (by rw [ex4]; rfl) (by decide) rfl ?_
        refine wk_goto C (tgt := 6) dX9_total_31 (by decide) ?_
        exact wk_forget (lv' := [some (.ref l0A), some (.long x3), none, some (.int x4)]) (wkLs.le ⟨rfl, rfl, rfl, trivial⟩) (ih _ _ _ _ hW hE hl0A h)
set_option maxHeartbeats 4000000 in
set_option maxRecDepth 100000 in
theorem tX9_total {l : Launch} {F : Nat} {S : wPS} {l0A : Nat} {Φ : (Int64 → wPS → Prop)} (hW : wkWF S) (hl0A : wkIs S l0A 9) (h : rX9_total F l0A S Φ) : wkMet l yX9_total wsX9_total 0 0 0 [.ref l0A] S (fun v' S'' => ∃ v : Int64, v' = some (.long v) ∧ Φ v S'' ∧ wkWF S'' ∧ wkExt S S'') := by
  refine wkMet_of (ret := (some .long)) (by decide) rfl (Nat.le_of_ble_eq_true rfl) (fun X C hR E => ?_)
  have hE : wkExt S S := wkExt.rf
  have hd : 0 ≤ 0 := Nat.le_refl _
  show wkGo l X 4 0 0 0 S [some (.ref l0A), none, none, none] []
  have ih := tX9_total_go (F := F) C hR hd E F
  have h : rX9_total_s F (rX9_total_go F F) l0A S Φ := h
  unfold rX9_total_s at h
  refine wk_ldc2 C (v := 7) (List.mem_of_getElem? (i := 1) rfl) dX9_total_0 ?_
  refine wk_lstore_n C (lv' := [some (.ref l0A), some (.long 7), none, none]) dX9_total_3 rfl (by decide) rfl ?_
  refine wk_iconst C (v := 0) dX9_total_4 (by decide) ?_
  refine wk_istore_n C (lv' := [some (.ref l0A), some (.long 7), none, some (.int 0)]) dX9_total_5 rfl (by decide) rfl ?_
  exact wk_forget (lv' := [some (.ref l0A), some (.long 7), none, some (.int 0)]) (wkLs.le ⟨rfl, rfl, rfl, trivial⟩) (ih _ _ _ _ hW hE hl0A h)
def rX9_liesWithin_b0 (F : Nat) (rec : Nat → Nat → Int32 → Int32 → Int32 → wPS → (Int32 → wPS → Prop) → Prop) (l0A : Nat) (l2I : Int32) (l3I : Int32) (l4I : Int32) (S : wPS) (Φ : (Int32 → wPS → Prop)) : Prop :=
  if (gRow_count S l0A) ≤ l4I then (Φ 1 S) else (¬ (l4I < 0 ∨ S.len (wkAd (gRow_numbers S l0A)) ≤ (l4I).toNatClampNeg) ∧ if (S.rI (wkAd (gRow_numbers S l0A)) (l4I).toNatClampNeg) < l2I then (Φ 0 S) else (¬ (l4I < 0 ∨ S.len (wkAd (gRow_numbers S l0A)) ≤ (l4I).toNatClampNeg) ∧ if (S.rI (wkAd (gRow_numbers S l0A)) (l4I).toNatClampNeg) ≤ l3I then (wkLt (l4I + 1) fun x6 => rec 0 l0A l2I l3I x6 S Φ) else (Φ 0 S)))
def rX9_liesWithin_go (F : Nat) : Nat → Nat → Nat → Int32 → Int32 → Int32 → wPS → (Int32 → wPS → Prop) → Prop
  | 0, _, _, _, _, _, _, _ => False
  | k + 1, lab, l0A, l2I, l3I, l4I, S, Φ => if lab = 0 then rX9_liesWithin_b0 F (rX9_liesWithin_go F k) l0A l2I l3I l4I S Φ else False
def rX9_liesWithin_s (F : Nat) (rec : Nat → Nat → Int32 → Int32 → Int32 → wPS → (Int32 → wPS → Prop) → Prop) (l0A : Nat) (l1I : Int32) (l2I : Int32) (l3I : Int32) (S : wPS) (Φ : (Int32 → wPS → Prop)) : Prop :=
  rec 0 l0A l2I l3I l1I S Φ
def rX9_liesWithin (F : Nat) (l0A : Nat) (l1I : Int32) (l2I : Int32) (l3I : Int32) (S : wPS) (Φ : (Int32 → wPS → Prop)) : Prop := rX9_liesWithin_s F (rX9_liesWithin_go F F) l0A l1I l2I l3I S Φ
set_option maxHeartbeats 4000000 in
set_option maxRecDepth 100000 in
theorem tX9_liesWithin_go {l : Launch} {X : wkX} {d F : Nat} {S0 : wPS} {Φ : (Int32 → wPS → Prop)} (C : wkC X cX9_liesWithin RX9 5 wsX9_liesWithin) (hR : wkRm X d 0 0) (hd : 0 ≤ d) (E : wkEnd l X cX9_liesWithin 5 (some .boolean) 0 0 (fun v' S'' => ∃ v : Int32, v' = some (.int v) ∧ Φ v S'' ∧ wkWF S'' ∧ wkExt S0 S'')) : ∀ k : Nat, (∀ (l0A : Nat) (l2I : Int32) (l3I : Int32) (l4I : Int32) (S : wPS), wkWF S → wkExt S0 S → wkIs S l0A 9 → rX9_liesWithin_go F k 0 l0A l2I l3I l4I S Φ → wkGo l X 5 0 0 3 S [some (.ref l0A), none, some (.int l2I), some (.int l3I), some (.int l4I)] []) := by
  intro k
  induction k with
  | zero => exact fun l0A l2I l3I l4I S hW hE hl0A h => h.elim
  | succ k ih =>
    · intro l0A l2I l3I l4I S hW hE hl0A h
      have h : rX9_liesWithin_b0 F (rX9_liesWithin_go F k) l0A l2I l3I l4I S Φ := h
      unfold rX9_liesWithin_b0 at h
      refine wk_iload C dX9_liesWithin_3 rfl ?_
      refine wk_aload_n C dX9_liesWithin_5 rfl rfl ?_
      refine wk_get C (v := .int (gRow_count S l0A)) (fun w h => List.mem_cons_of_mem _ (by first | exact List.mem_append_right _ h | exact List.mem_append_left _ (List.mem_append_right _ h) | exact List.mem_append_left _ (List.mem_append_left _ (List.mem_append_right _ h)) | exact List.mem_append_left _ (List.mem_append_left _ (List.mem_append_left _ (List.mem_append_right _ h))))) hl0A.1 (fun cy => wAt_9 cy _ hl0A.2) rfl 1 (by decide) (List.mem_of_getElem? (i := 1) rfl) rfl rfl dX9_liesWithin_6 ?_
      refine wk_icmp_ge C (tgt := 42) dX9_liesWithin_9 (by decide) (fun c1 => ?_) (fun c1 => ?_)
      · rw [if_pos c1] at h
        refine wk_iconst C (v := 1) dX9_liesWithin_42 (by decide) ?_
        exact E _ _ _ _ _ _ (Nat.le_refl 0) (Nat.le_refl 0) dX9_liesWithin_43 rfl ⟨1, rfl, h, hW, hE⟩
      · rw [if_neg c1] at h
        refine wk_aload_n C dX9_liesWithin_12 rfl rfl ?_
        refine wk_get C (fun w h => List.mem_cons_of_mem _ (by first | exact List.mem_append_right _ h | exact List.mem_append_left _ (List.mem_append_right _ h) | exact List.mem_append_left _ (List.mem_append_left _ (List.mem_append_right _ h)) | exact List.mem_append_left _ (List.mem_append_left _ (List.mem_append_left _ (List.mem_append_right _ h))))) hl0A.1 (fun cy => wAt_9 cy _ hl0A.2) rfl 0 (by decide) (List.mem_of_getElem? (i := 2) rfl) rfl (congrArg some (congrArg va_rf (wf_Row_numbers hW hl0A).1)) dX9_liesWithin_13 ?_
        refine wk_iload C dX9_liesWithin_16 rfl ?_
        obtain ⟨i2, h⟩ := h
        refine wk_iald C (wf_Row_numbers hW hl0A).2.1 (wf_Row_numbers hW hl0A).2.2 i2 rfl dX9_liesWithin_18 ?_
        refine wk_iload_n C dX9_liesWithin_19 rfl rfl ?_
        refine wk_icmp_lt C (tgt := 34) dX9_liesWithin_20 (by decide) (fun c3 => ?_) (fun c3 => ?_)
        · rw [if_pos c3] at h
          refine wk_iconst C (v := 0) dX9_liesWithin_34 (by decide) ?_
          exact E _ _ _ _ _ _ (Nat.le_refl 0) (Nat.le_refl 0) dX9_liesWithin_35 rfl ⟨0, rfl, h, hW, hE⟩
        · rw [if_neg c3] at h
          refine wk_aload_n C dX9_liesWithin_23 rfl rfl ?_
          refine wk_get C (fun w h => List.mem_cons_of_mem _ (by first | exact List.mem_append_right _ h | exact List.mem_append_left _ (List.mem_append_right _ h) | exact List.mem_append_left _ (List.mem_append_left _ (List.mem_append_right _ h)) | exact List.mem_append_left _ (List.mem_append_left _ (List.mem_append_left _ (List.mem_append_right _ h))))) hl0A.1 (fun cy => wAt_9 cy _ hl0A.2) rfl 0 (by decide) (List.mem_of_getElem? (i := 2) rfl) rfl (congrArg some (congrArg va_rf (wf_Row_numbers hW hl0A).1)) dX9_liesWithin_24 ?_
          refine wk_iload C dX9_liesWithin_27 rfl ?_
          obtain ⟨i4, h⟩ := h
          refine wk_iald C (wf_Row_numbers hW hl0A).2.1 (wf_Row_numbers hW hl0A).2.2 i4 rfl dX9_liesWithin_29 ?_
          refine wk_iload_n C dX9_liesWithin_30 rfl rfl ?_
          refine wk_icmp_le C (tgt := 36) dX9_liesWithin_31 (by decide) (fun c5 => ?_) (fun c5 => ?_)
          · rw [if_pos c5] at h
            obtain ⟨x6, ex6, h⟩ := wkLt_some h
            refine wk_iinc C (lv' := [some (.ref l0A), none, some (.int l2I), some (.int l3I), some (.int x6)]) dX9_liesWithin_36 rfl (by rw [ex6]; rfl) (by decide) rfl ?_
            refine wk_goto C (tgt := 3) dX9_liesWithin_39 (by decide) ?_
            exact wk_forget (lv' := [some (.ref l0A), none, some (.int l2I), some (.int l3I), some (.int x6)]) (wkLs.le ⟨rfl, rfl, rfl, rfl, trivial⟩) (ih _ _ _ _ _ hW hE hl0A h)
          · rw [if_neg c5] at h
            refine wk_iconst C (v := 0) dX9_liesWithin_34 (by decide) ?_
            exact E _ _ _ _ _ _ (Nat.le_refl 0) (Nat.le_refl 0) dX9_liesWithin_35 rfl ⟨0, rfl, h, hW, hE⟩
set_option maxHeartbeats 4000000 in
set_option maxRecDepth 100000 in
theorem tX9_liesWithin {l : Launch} {F : Nat} {S : wPS} {l0A : Nat} {l1I : Int32} {l2I : Int32} {l3I : Int32} {Φ : (Int32 → wPS → Prop)} (hW : wkWF S) (hl0A : wkIs S l0A 9) (h : rX9_liesWithin F l0A l1I l2I l3I S Φ) : wkMet l yX9_liesWithin wsX9_liesWithin 0 0 0 [.ref l0A, .int l1I, .int l2I, .int l3I] S (fun v' S'' => ∃ v : Int32, v' = some (.int v) ∧ Φ v S'' ∧ wkWF S'' ∧ wkExt S S'') := by
  refine wkMet_of (ret := (some .boolean)) (by decide) rfl (Nat.le_of_ble_eq_true rfl) (fun X C hR E => ?_)
  have hE : wkExt S S := wkExt.rf
  have hd : 0 ≤ 0 := Nat.le_refl _
  show wkGo l X 5 0 0 0 S [some (.ref l0A), some (.int l1I), some (.int l2I), some (.int l3I), none] []
  have ih := tX9_liesWithin_go (F := F) C hR hd E F
  have h : rX9_liesWithin_s F (rX9_liesWithin_go F F) l0A l1I l2I l3I S Φ := h
  unfold rX9_liesWithin_s at h
  refine wk_iload_n C dX9_liesWithin_0 rfl rfl ?_
  refine wk_istore C (lv' := [some (.ref l0A), some (.int l1I), some (.int l2I), some (.int l3I), some (.int l1I)]) dX9_liesWithin_1 (by decide) rfl ?_
  exact wk_forget (lv' := [some (.ref l0A), none, some (.int l2I), some (.int l3I), some (.int l1I)]) (wkLs.le ⟨rfl, rfl, rfl, rfl, trivial⟩) (ih _ _ _ _ _ hW hE hl0A h)
def rX9_isRising_b0 (F : Nat) (rec : Nat → Nat → Int32 → wPS → (Int32 → wPS → Prop) → Prop) (l0A : Nat) (l2I : Int32) (S : wPS) (Φ : (Int32 → wPS → Prop)) : Prop :=
  if (gRow_count S l0A) ≤ l2I then (Φ 1 S) else (¬ (l2I < 0 ∨ S.len (wkAd (gRow_numbers S l0A)) ≤ (l2I).toNatClampNeg) ∧ ¬ ((l2I - 1) < 0 ∨ S.len (wkAd (gRow_numbers S l0A)) ≤ ((l2I - 1)).toNatClampNeg) ∧ if (S.rI (wkAd (gRow_numbers S l0A)) ((l2I - 1)).toNatClampNeg) < (S.rI (wkAd (gRow_numbers S l0A)) (l2I).toNatClampNeg) then (wkLt (l2I + 1) fun x5 => rec 0 l0A x5 S Φ) else (Φ 0 S))
def rX9_isRising_go (F : Nat) : Nat → Nat → Nat → Int32 → wPS → (Int32 → wPS → Prop) → Prop
  | 0, _, _, _, _, _ => False
  | k + 1, lab, l0A, l2I, S, Φ => if lab = 0 then rX9_isRising_b0 F (rX9_isRising_go F k) l0A l2I S Φ else False
def rX9_isRising_s (F : Nat) (rec : Nat → Nat → Int32 → wPS → (Int32 → wPS → Prop) → Prop) (l0A : Nat) (l1I : Int32) (S : wPS) (Φ : (Int32 → wPS → Prop)) : Prop :=
  wkLt ((l1I + 1)) fun x6 => rec 0 l0A x6 S Φ
def rX9_isRising (F : Nat) (l0A : Nat) (l1I : Int32) (S : wPS) (Φ : (Int32 → wPS → Prop)) : Prop := rX9_isRising_s F (rX9_isRising_go F F) l0A l1I S Φ
set_option maxHeartbeats 4000000 in
set_option maxRecDepth 100000 in
theorem tX9_isRising_go {l : Launch} {X : wkX} {d F : Nat} {S0 : wPS} {Φ : (Int32 → wPS → Prop)} (C : wkC X cX9_isRising RX9 3 wsX9_isRising) (hR : wkRm X d 0 0) (hd : 0 ≤ d) (E : wkEnd l X cX9_isRising 3 (some .boolean) 0 0 (fun v' S'' => ∃ v : Int32, v' = some (.int v) ∧ Φ v S'' ∧ wkWF S'' ∧ wkExt S0 S'')) : ∀ k : Nat, (∀ (l0A : Nat) (l2I : Int32) (S : wPS), wkWF S → wkExt S0 S → wkIs S l0A 9 → rX9_isRising_go F k 0 l0A l2I S Φ → wkGo l X 3 0 0 4 S [some (.ref l0A), none, some (.int l2I)] []) := by
  intro k
  induction k with
  | zero => exact fun l0A l2I S hW hE hl0A h => h.elim
  | succ k ih =>
    · intro l0A l2I S hW hE hl0A h
      have h : rX9_isRising_b0 F (rX9_isRising_go F k) l0A l2I S Φ := h
      unfold rX9_isRising_b0 at h
      refine wk_iload_n C dX9_isRising_4 rfl rfl ?_
      refine wk_aload_n C dX9_isRising_5 rfl rfl ?_
      refine wk_get C (v := .int (gRow_count S l0A)) (fun w h => List.mem_cons_of_mem _ (by first | exact List.mem_append_right _ h | exact List.mem_append_left _ (List.mem_append_right _ h) | exact List.mem_append_left _ (List.mem_append_left _ (List.mem_append_right _ h)) | exact List.mem_append_left _ (List.mem_append_left _ (List.mem_append_left _ (List.mem_append_right _ h))))) hl0A.1 (fun cy => wAt_9 cy _ hl0A.2) rfl 1 (by decide) (List.mem_of_getElem? (i := 1) rfl) rfl rfl dX9_isRising_6 ?_
      refine wk_icmp_ge C (tgt := 37) dX9_isRising_9 (by decide) (fun c1 => ?_) (fun c1 => ?_)
      · rw [if_pos c1] at h
        refine wk_iconst C (v := 1) dX9_isRising_37 (by decide) ?_
        exact E _ _ _ _ _ _ (Nat.le_refl 0) (Nat.le_refl 0) dX9_isRising_38 rfl ⟨1, rfl, h, hW, hE⟩
      · rw [if_neg c1] at h
        refine wk_aload_n C dX9_isRising_12 rfl rfl ?_
        refine wk_get C (fun w h => List.mem_cons_of_mem _ (by first | exact List.mem_append_right _ h | exact List.mem_append_left _ (List.mem_append_right _ h) | exact List.mem_append_left _ (List.mem_append_left _ (List.mem_append_right _ h)) | exact List.mem_append_left _ (List.mem_append_left _ (List.mem_append_left _ (List.mem_append_right _ h))))) hl0A.1 (fun cy => wAt_9 cy _ hl0A.2) rfl 0 (by decide) (List.mem_of_getElem? (i := 2) rfl) rfl (congrArg some (congrArg va_rf (wf_Row_numbers hW hl0A).1)) dX9_isRising_13 ?_
        refine wk_iload_n C dX9_isRising_16 rfl rfl ?_
        obtain ⟨i2, h⟩ := h
        refine wk_iald C (wf_Row_numbers hW hl0A).2.1 (wf_Row_numbers hW hl0A).2.2 i2 rfl dX9_isRising_17 ?_
        refine wk_aload_n C dX9_isRising_18 rfl rfl ?_
        refine wk_get C (fun w h => List.mem_cons_of_mem _ (by first | exact List.mem_append_right _ h | exact List.mem_append_left _ (List.mem_append_right _ h) | exact List.mem_append_left _ (List.mem_append_left _ (List.mem_append_right _ h)) | exact List.mem_append_left _ (List.mem_append_left _ (List.mem_append_left _ (List.mem_append_right _ h))))) hl0A.1 (fun cy => wAt_9 cy _ hl0A.2) rfl 0 (by decide) (List.mem_of_getElem? (i := 2) rfl) rfl (congrArg some (congrArg va_rf (wf_Row_numbers hW hl0A).1)) dX9_isRising_19 ?_
        refine wk_iload_n C dX9_isRising_22 rfl rfl ?_
        refine wk_iconst C (v := 1) dX9_isRising_23 (by decide) ?_
        refine wk_isub C dX9_isRising_24 rfl ?_
        obtain ⟨i3, h⟩ := h
        refine wk_iald C (wf_Row_numbers hW hl0A).2.1 (wf_Row_numbers hW hl0A).2.2 i3 rfl dX9_isRising_25 ?_
        refine wk_icmp_gt C (tgt := 31) dX9_isRising_26 (by decide) (fun c4 => ?_) (fun c4 => ?_)
        · rw [if_pos c4] at h
          obtain ⟨x5, ex5, h⟩ := wkLt_some h
          refine wk_iinc C (lv' := [some (.ref l0A), none, some (.int x5)]) dX9_isRising_31 rfl (by rw [ex5]; rfl) (by decide) rfl ?_
          refine wk_goto C (tgt := 4) dX9_isRising_34 (by decide) ?_
          exact wk_forget (lv' := [some (.ref l0A), none, some (.int x5)]) (wkLs.le ⟨rfl, rfl, trivial⟩) (ih _ _ _ hW hE hl0A h)
        · rw [if_neg c4] at h
          refine wk_iconst C (v := 0) dX9_isRising_29 (by decide) ?_
          exact E _ _ _ _ _ _ (Nat.le_refl 0) (Nat.le_refl 0) dX9_isRising_30 rfl ⟨0, rfl, h, hW, hE⟩
set_option maxHeartbeats 4000000 in
set_option maxRecDepth 100000 in
theorem tX9_isRising {l : Launch} {F : Nat} {S : wPS} {l0A : Nat} {l1I : Int32} {Φ : (Int32 → wPS → Prop)} (hW : wkWF S) (hl0A : wkIs S l0A 9) (h : rX9_isRising F l0A l1I S Φ) : wkMet l yX9_isRising wsX9_isRising 0 0 0 [.ref l0A, .int l1I] S (fun v' S'' => ∃ v : Int32, v' = some (.int v) ∧ Φ v S'' ∧ wkWF S'' ∧ wkExt S S'') := by
  refine wkMet_of (ret := (some .boolean)) (by decide) rfl (Nat.le_of_ble_eq_true rfl) (fun X C hR E => ?_)
  have hE : wkExt S S := wkExt.rf
  have hd : 0 ≤ 0 := Nat.le_refl _
  show wkGo l X 3 0 0 0 S [some (.ref l0A), some (.int l1I), none] []
  have ih := tX9_isRising_go (F := F) C hR hd E F
  have h : rX9_isRising_s F (rX9_isRising_go F F) l0A l1I S Φ := h
  unfold rX9_isRising_s at h
  refine wk_iload_n C dX9_isRising_0 rfl rfl ?_
  refine wk_iconst C (v := 1) dX9_isRising_1 (by decide) ?_
  refine wk_iadd C dX9_isRising_2 rfl ?_
  obtain ⟨x6, ex6, h⟩ := wkLt_some h
  refine wk_topi ex6 ?_
  refine wk_istore_n C (lv' := [some (.ref l0A), some (.int l1I), some (.int x6)]) dX9_isRising_3 rfl (by decide) rfl ?_
  exact wk_forget (lv' := [some (.ref l0A), none, some (.int x6)]) (wkLs.le ⟨rfl, rfl, trivial⟩) (ih _ _ _ hW hE hl0A h)
def rX9_holds_b0 (F : Nat) (rec : Nat → Nat → Int32 → Int32 → Int32 → Int32 → wPS → (Int32 → wPS → Prop) → Prop) (l0A : Nat) (l2I : Int32) (l3I : Int32) (l4I : Int32) (l5I : Int32) (S : wPS) (Φ : (Int32 → wPS → Prop)) : Prop :=
  if 32 ≤ l5I then (Φ 0 S) else (if l4I < l3I then (Φ 0 S) else (wkLt (((l3I + l4I) / 2)) fun x3 => ¬ (x3 < 0 ∨ S.len (wkAd (gRow_numbers S l0A)) ≤ (x3).toNatClampNeg) ∧ if (S.rI (wkAd (gRow_numbers S l0A)) (x3).toNatClampNeg) = l2I then (Φ 1 S) else (¬ (x3 < 0 ∨ S.len (wkAd (gRow_numbers S l0A)) ≤ (x3).toNatClampNeg) ∧ if l2I ≤ (S.rI (wkAd (gRow_numbers S l0A)) (x3).toNatClampNeg) then (wkLt ((x3 - 1)) fun x8 => wkLt (l5I + 1) fun x9 => rec 0 l0A l2I l3I x8 x9 S Φ) else (wkLt ((x3 + 1)) fun x10 => wkLt (l5I + 1) fun x11 => rec 0 l0A l2I x10 l4I x11 S Φ))))
def rX9_holds_go (F : Nat) : Nat → Nat → Nat → Int32 → Int32 → Int32 → Int32 → wPS → (Int32 → wPS → Prop) → Prop
  | 0, _, _, _, _, _, _, _, _ => False
  | k + 1, lab, l0A, l2I, l3I, l4I, l5I, S, Φ => if lab = 0 then rX9_holds_b0 F (rX9_holds_go F k) l0A l2I l3I l4I l5I S Φ else False
def rX9_holds_s (F : Nat) (rec : Nat → Nat → Int32 → Int32 → Int32 → Int32 → wPS → (Int32 → wPS → Prop) → Prop) (l0A : Nat) (l1I : Int32) (l2I : Int32) (S : wPS) (Φ : (Int32 → wPS → Prop)) : Prop :=
  wkLt (((gRow_count S l0A) - 1)) fun x12 => rec 0 l0A l2I l1I x12 0 S Φ
def rX9_holds (F : Nat) (l0A : Nat) (l1I : Int32) (l2I : Int32) (S : wPS) (Φ : (Int32 → wPS → Prop)) : Prop := rX9_holds_s F (rX9_holds_go F F) l0A l1I l2I S Φ
set_option maxHeartbeats 4000000 in
set_option maxRecDepth 100000 in
theorem tX9_holds_go {l : Launch} {X : wkX} {d F : Nat} {S0 : wPS} {Φ : (Int32 → wPS → Prop)} (C : wkC X cX9_holds RX9 7 wsX9_holds) (hR : wkRm X d 0 0) (hd : 0 ≤ d) (E : wkEnd l X cX9_holds 7 (some .boolean) 0 0 (fun v' S'' => ∃ v : Int32, v' = some (.int v) ∧ Φ v S'' ∧ wkWF S'' ∧ wkExt S0 S'')) : ∀ k : Nat, (∀ (l0A : Nat) (l2I : Int32) (l3I : Int32) (l4I : Int32) (l5I : Int32) (S : wPS), wkWF S → wkExt S0 S → wkIs S l0A 9 → rX9_holds_go F k 0 l0A l2I l3I l4I l5I S Φ → wkGo l X 7 0 0 13 S [some (.ref l0A), none, some (.int l2I), some (.int l3I), some (.int l4I), some (.int l5I), none] []) := by
  intro k
  induction k with
  | zero => exact fun l0A l2I l3I l4I l5I S hW hE hl0A h => h.elim
  | succ k ih =>
    · intro l0A l2I l3I l4I l5I S hW hE hl0A h
      have h : rX9_holds_b0 F (rX9_holds_go F k) l0A l2I l3I l4I l5I S Φ := h
      unfold rX9_holds_b0 at h
      refine wk_iload C dX9_holds_13 rfl ?_
      refine wk_bipush C (v := 32) dX9_holds_15 (by decide) ?_
      refine wk_icmp_ge C (tgt := 78) dX9_holds_17 (by decide) (fun c1 => ?_) (fun c1 => ?_)
      · rw [if_pos c1] at h
        refine wk_iconst C (v := 0) dX9_holds_78 (by decide) ?_
        exact E _ _ _ _ _ _ (Nat.le_refl 0) (Nat.le_refl 0) dX9_holds_79 rfl ⟨0, rfl, h, hW, hE⟩
      · rw [if_neg c1] at h
        refine wk_iload_n C dX9_holds_20 rfl rfl ?_
        refine wk_iload C dX9_holds_21 rfl ?_
        refine wk_icmp_gt C (tgt := 78) dX9_holds_23 (by decide) (fun c2 => ?_) (fun c2 => ?_)
        · rw [if_pos c2] at h
          refine wk_iconst C (v := 0) dX9_holds_78 (by decide) ?_
          exact E _ _ _ _ _ _ (Nat.le_refl 0) (Nat.le_refl 0) dX9_holds_79 rfl ⟨0, rfl, h, hW, hE⟩
        · rw [if_neg c2] at h
          refine wk_iload_n C dX9_holds_26 rfl rfl ?_
          refine wk_iload C dX9_holds_27 rfl ?_
          refine wk_iadd C dX9_holds_29 rfl ?_
          refine wk_iconst C (v := 2) dX9_holds_30 (by decide) ?_
          refine wk_idiv C dX9_holds_31 (by decide) rfl ?_
          obtain ⟨x3, ex3, h⟩ := wkLt_some h
          refine wk_topi ex3 ?_
          refine wk_istore C (lv' := [some (.ref l0A), none, some (.int l2I), some (.int l3I), some (.int l4I), some (.int l5I), some (.int x3)]) dX9_holds_32 (by decide) rfl ?_
          refine wk_aload_n C dX9_holds_34 rfl rfl ?_
          refine wk_get C (fun w h => List.mem_cons_of_mem _ (by first | exact List.mem_append_right _ h | exact List.mem_append_left _ (List.mem_append_right _ h) | exact List.mem_append_left _ (List.mem_append_left _ (List.mem_append_right _ h)) | exact List.mem_append_left _ (List.mem_append_left _ (List.mem_append_left _ (List.mem_append_right _ h))))) hl0A.1 (fun cy => wAt_9 cy _ hl0A.2) rfl 0 (by decide) (List.mem_of_getElem? (i := 2) rfl) rfl (congrArg some (congrArg va_rf (wf_Row_numbers hW hl0A).1)) dX9_holds_35 ?_
          refine wk_iload C dX9_holds_38 rfl ?_
          obtain ⟨i4, h⟩ := h
          refine wk_iald C (wf_Row_numbers hW hl0A).2.1 (wf_Row_numbers hW hl0A).2.2 i4 rfl dX9_holds_40 ?_
          refine wk_iload_n C dX9_holds_41 rfl rfl ?_
          refine wk_icmp_ne C (tgt := 47) dX9_holds_42 (by decide) (fun c5 => ?_) (fun c5 => ?_)
          · rw [if_neg c5] at h
            refine wk_aload_n C dX9_holds_47 rfl rfl ?_
            refine wk_get C (fun w h => List.mem_cons_of_mem _ (by first | exact List.mem_append_right _ h | exact List.mem_append_left _ (List.mem_append_right _ h) | exact List.mem_append_left _ (List.mem_append_left _ (List.mem_append_right _ h)) | exact List.mem_append_left _ (List.mem_append_left _ (List.mem_append_left _ (List.mem_append_right _ h))))) hl0A.1 (fun cy => wAt_9 cy _ hl0A.2) rfl 0 (by decide) (List.mem_of_getElem? (i := 2) rfl) rfl (congrArg some (congrArg va_rf (wf_Row_numbers hW hl0A).1)) dX9_holds_48 ?_
            refine wk_iload C dX9_holds_51 rfl ?_
            obtain ⟨i6, h⟩ := h
            refine wk_iald C (wf_Row_numbers hW hl0A).2.1 (wf_Row_numbers hW hl0A).2.2 i6 rfl dX9_holds_53 ?_
            refine wk_iload_n C dX9_holds_54 rfl rfl ?_
            refine wk_icmp_ge C (tgt := 66) dX9_holds_55 (by decide) (fun c7 => ?_) (fun c7 => ?_)
            · rw [if_pos c7] at h
              refine wk_iload C dX9_holds_66 rfl ?_
              refine wk_iconst C (v := 1) dX9_holds_68 (by decide) ?_
              refine wk_isub C dX9_holds_69 rfl ?_
              obtain ⟨x8, ex8, h⟩ := wkLt_some h
              refine wk_topi ex8 ?_
              refine wk_istore C (lv' := [some (.ref l0A), none, some (.int l2I), some (.int l3I), some (.int x8), some (.int l5I), some (.int x3)]) dX9_holds_70 (by decide) rfl ?_
              obtain ⟨x9, ex9, h⟩ := wkLt_some h
              refine wk_iinc C (lv' := [some (.ref l0A), none, some (.int l2I), some (.int l3I), some (.int x8), some (.int x9), some (.int x3)]) dX9_holds_72 rfl (by rw [ex9]; rfl) (by decide) rfl ?_
              refine wk_goto C (tgt := 13) dX9_holds_75 (by decide) ?_
              exact wk_forget (lv' := [some (.ref l0A), none, some (.int l2I), some (.int l3I), some (.int x8), some (.int x9), none]) (wkLs.le ⟨rfl, rfl, rfl, rfl, rfl, trivial⟩) (ih _ _ _ _ _ _ hW hE hl0A h)
            · rw [if_neg c7] at h
              refine wk_iload C dX9_holds_58 rfl ?_
              refine wk_iconst C (v := 1) dX9_holds_60 (by decide) ?_
              refine wk_iadd C dX9_holds_61 rfl ?_
              obtain ⟨x10, ex10, h⟩ := wkLt_some h
              refine wk_topi ex10 ?_
              refine wk_istore_n C (lv' := [some (.ref l0A), none, some (.int l2I), some (.int x10), some (.int l4I), some (.int l5I), some (.int x3)]) dX9_holds_62 rfl (by decide) rfl ?_
              refine wk_goto C (tgt := 72) dX9_holds_63 (by decide) ?_
              obtain ⟨x11, ex11, h⟩ := wkLt_some h
              refine wk_iinc C (lv' := [some (.ref l0A), none, some (.int l2I), some (.int x10), some (.int l4I), some (.int x11), some (.int x3)]) dX9_holds_72 rfl (by rw [ex11]; rfl) (by decide) rfl ?_
              refine wk_goto C (tgt := 13) dX9_holds_75 (by decide) ?_
              exact wk_forget (lv' := [some (.ref l0A), none, some (.int l2I), some (.int x10), some (.int l4I), some (.int x11), none]) (wkLs.le ⟨rfl, rfl, rfl, rfl, rfl, trivial⟩) (ih _ _ _ _ _ _ hW hE hl0A h)
          · rw [if_pos c5] at h
            refine wk_iconst C (v := 1) dX9_holds_45 (by decide) ?_
            exact E _ _ _ _ _ _ (Nat.le_refl 0) (Nat.le_refl 0) dX9_holds_46 rfl ⟨1, rfl, h, hW, hE⟩
set_option maxHeartbeats 4000000 in
set_option maxRecDepth 100000 in
theorem tX9_holds {l : Launch} {F : Nat} {S : wPS} {l0A : Nat} {l1I : Int32} {l2I : Int32} {Φ : (Int32 → wPS → Prop)} (hW : wkWF S) (hl0A : wkIs S l0A 9) (h : rX9_holds F l0A l1I l2I S Φ) : wkMet l yX9_holds wsX9_holds 0 0 0 [.ref l0A, .int l1I, .int l2I] S (fun v' S'' => ∃ v : Int32, v' = some (.int v) ∧ Φ v S'' ∧ wkWF S'' ∧ wkExt S S'') := by
  refine wkMet_of (ret := (some .boolean)) (by decide) rfl (Nat.le_of_ble_eq_true rfl) (fun X C hR E => ?_)
  have hE : wkExt S S := wkExt.rf
  have hd : 0 ≤ 0 := Nat.le_refl _
  show wkGo l X 7 0 0 0 S [some (.ref l0A), some (.int l1I), some (.int l2I), none, none, none, none] []
  have ih := tX9_holds_go (F := F) C hR hd E F
  have h : rX9_holds_s F (rX9_holds_go F F) l0A l1I l2I S Φ := h
  unfold rX9_holds_s at h
  refine wk_iload_n C dX9_holds_0 rfl rfl ?_
  refine wk_istore_n C (lv' := [some (.ref l0A), some (.int l1I), some (.int l2I), some (.int l1I), none, none, none]) dX9_holds_1 rfl (by decide) rfl ?_
  refine wk_aload_n C dX9_holds_2 rfl rfl ?_
  refine wk_get C (v := .int (gRow_count S l0A)) (fun w h => List.mem_cons_of_mem _ (by first | exact List.mem_append_right _ h | exact List.mem_append_left _ (List.mem_append_right _ h) | exact List.mem_append_left _ (List.mem_append_left _ (List.mem_append_right _ h)) | exact List.mem_append_left _ (List.mem_append_left _ (List.mem_append_left _ (List.mem_append_right _ h))))) hl0A.1 (fun cy => wAt_9 cy _ hl0A.2) rfl 1 (by decide) (List.mem_of_getElem? (i := 1) rfl) rfl rfl dX9_holds_3 ?_
  refine wk_iconst C (v := 1) dX9_holds_6 (by decide) ?_
  refine wk_isub C dX9_holds_7 rfl ?_
  obtain ⟨x12, ex12, h⟩ := wkLt_some h
  refine wk_topi ex12 ?_
  refine wk_istore C (lv' := [some (.ref l0A), some (.int l1I), some (.int l2I), some (.int l1I), some (.int x12), none, none]) dX9_holds_8 (by decide) rfl ?_
  refine wk_iconst C (v := 0) dX9_holds_10 (by decide) ?_
  refine wk_istore C (lv' := [some (.ref l0A), some (.int l1I), some (.int l2I), some (.int l1I), some (.int x12), some (.int 0), none]) dX9_holds_11 (by decide) rfl ?_
  exact wk_forget (lv' := [some (.ref l0A), none, some (.int l2I), some (.int l1I), some (.int x12), some (.int 0), none]) (wkLs.le ⟨rfl, rfl, rfl, rfl, rfl, trivial⟩) (ih _ _ _ _ _ _ hW hE hl0A h)
def rX9_isLike (F : Nat) (l0A : Nat) (l1A : Nat) (S : wPS) (Φ : (Int32 → wPS → Prop)) : Prop :=
  if (gRow_count S l0A) = (gRow_count S l1A) then (rX9_firstUnlike F l0A l1A S fun v2 S3 => if v2 = (gRow_count S3 l0A) then (Φ 1 S3) else (Φ 0 S3)) else (Φ 0 S)
set_option maxHeartbeats 4000000 in
set_option maxRecDepth 100000 in
theorem tX9_isLike {l : Launch} {F : Nat} {S : wPS} {l0A : Nat} {l1A : Nat} {Φ : (Int32 → wPS → Prop)} (hW : wkWF S) (hl0A : wkIs S l0A 9) (hl1A : wkIs S l1A 9) (h : rX9_isLike F l0A l1A S Φ) : wkMet l yX9_isLike wsX9_isLike 2 0 0 [.ref l0A, .ref l1A] S (fun v' S'' => ∃ v : Int32, v' = some (.int v) ∧ Φ v S'' ∧ wkWF S'' ∧ wkExt S S'') := by
  refine wkMet_of (ret := (some .boolean)) (by decide) rfl (Nat.le_of_ble_eq_true rfl) (fun X C hR E => ?_)
  have hE : wkExt S S := wkExt.rf
  have hd : 2 ≤ 2 := Nat.le_refl _
  show wkGo l X 2 0 0 0 S [some (.ref l0A), some (.ref l1A)] []
  unfold rX9_isLike at h
  refine wk_aload_n C dX9_isLike_0 rfl rfl ?_
  refine wk_get C (v := .int (gRow_count S l0A)) (fun w h => List.mem_cons_of_mem _ (by first | exact List.mem_append_right _ h | exact List.mem_append_left _ (List.mem_append_right _ h) | exact List.mem_append_left _ (List.mem_append_left _ (List.mem_append_right _ h)) | exact List.mem_append_left _ (List.mem_append_left _ (List.mem_append_left _ (List.mem_append_right _ h))))) hl0A.1 (fun cy => wAt_9 cy _ hl0A.2) rfl 1 (by decide) (List.mem_of_getElem? (i := 1) rfl) rfl rfl dX9_isLike_1 ?_
  refine wk_aload_n C dX9_isLike_4 rfl rfl ?_
  refine wk_get C (v := .int (gRow_count S l1A)) (fun w h => List.mem_cons_of_mem _ (by first | exact List.mem_append_right _ h | exact List.mem_append_left _ (List.mem_append_right _ h) | exact List.mem_append_left _ (List.mem_append_left _ (List.mem_append_right _ h)) | exact List.mem_append_left _ (List.mem_append_left _ (List.mem_append_left _ (List.mem_append_right _ h))))) hl1A.1 (fun cy => wAt_9 cy _ hl1A.2) rfl 1 (by decide) (List.mem_of_getElem? (i := 1) rfl) rfl rfl dX9_isLike_5 ?_
  refine wk_icmp_ne C (tgt := 27) dX9_isLike_8 (by decide) (fun c1 => ?_) (fun c1 => ?_)
  · rw [if_neg c1] at h
    refine wk_iconst C (v := 0) dX9_isLike_27 (by decide) ?_
    exact E _ _ _ _ _ _ (Nat.le_refl 0) (Nat.le_refl 0) dX9_isLike_28 rfl ⟨0, rfl, h, hW, hE⟩
  · rw [if_pos c1] at h
    refine wk_aload_n C dX9_isLike_11 rfl rfl ?_
    refine wk_aload_n C dX9_isLike_12 rfl rfl ?_
    refine wk_callV C hR (As := [.ref l1A]) (cnt := 1) (tX9_firstUnlike (l := l) hW hl0A hl1A h) rfl gX9_isLike_X9_firstUnlike (Nat.le_trans (by decide : 1 + 1 ≤ 2) hd) (by decide) hl0A.1 (fun cy => wAt_9 cy _ hl0A.2) rfl ⟨by decide, by decide, by decide +kernel⟩ rfl rfl (Nat.le_of_ble_eq_true rfl) (Nat.le_refl 0) (Nat.le_refl 0) dX9_isLike_13 (fun v' S3 hp => ?_)
    obtain ⟨v2, rfl, h, hWS3, hXS3⟩ := hp
    refine wk_aload_n C dX9_isLike_16 rfl rfl ?_
    refine wk_get C (v := .int (gRow_count S3 l0A)) (fun w h => List.mem_cons_of_mem _ (by first | exact List.mem_append_right _ h | exact List.mem_append_left _ (List.mem_append_right _ h) | exact List.mem_append_left _ (List.mem_append_left _ (List.mem_append_right _ h)) | exact List.mem_append_left _ (List.mem_append_left _ (List.mem_append_left _ (List.mem_append_right _ h))))) (hXS3 _ _ hl0A).1 (fun cy => wAt_9 cy _ (hXS3 _ _ hl0A).2) rfl 1 (by decide) (List.mem_of_getElem? (i := 1) rfl) rfl rfl dX9_isLike_17 ?_
    refine wk_icmp_ne C (tgt := 27) dX9_isLike_20 (by decide) (fun c5 => ?_) (fun c5 => ?_)
    · rw [if_neg c5] at h
      refine wk_iconst C (v := 0) dX9_isLike_27 (by decide) ?_
      exact E _ _ _ _ _ _ (Nat.le_refl 0) (Nat.le_refl 0) dX9_isLike_28 rfl ⟨0, rfl, h, hWS3, (wkExt.tr hE hXS3)⟩
    · rw [if_pos c5] at h
      refine wk_iconst C (v := 1) dX9_isLike_23 (by decide) ?_
      refine wk_goto C (tgt := 28) dX9_isLike_24 (by decide) ?_
      exact E _ _ _ _ _ _ (Nat.le_refl 0) (Nat.le_refl 0) dX9_isLike_28 rfl ⟨1, rfl, h, hWS3, (wkExt.tr hE hXS3)⟩
