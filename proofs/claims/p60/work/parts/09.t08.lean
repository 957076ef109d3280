def wvX5_rowOf : List Cond := .code yX5_rowOf cX5_rowOf 3 (some .int) :: (([.fieldLink RX5 83 "Witnessworks$Inequalities" "rows" "I", .fieldLink RX5 16 "Witnessworks$Inequalities" "rowLabels" "[I"] : List Cond) ++ ((wsX50) ++ ([])))
theorem huX5_rowOf_5 : ∀ w ∈ u_ws RX5 TX5 7, w ∈ wvX5_rowOf := fun w h => List.mem_cons_of_mem _ (List.mem_append_right _ (List.mem_append_left _ h))
theorem gdX5_rowOf : ∀ w ∈ wvX5_rowOf, wkGd w := wkGdC rfl (wkGdA (wkGdL (by decide +kernel)) (wkGdA gdX5 (fun _ h => absurd h List.not_mem_nil)))
def rX5_rowOf_b0 (F : Nat) (rec : Nat → Nat → Int32 → Int32 → wPS → (Int32 → wPS → Prop) → Prop) (l0A : Nat) (l1I : Int32) (l2I : Int32) (S : wPS) (Φ : (Int32 → wPS → Prop)) : Prop :=
  if (gInequalities_rows S l0A) ≤ l2I then (Φ (-1 : Int32) S) else (¬ (l2I < 0 ∨ S.len (wkAd (gInequalities_rowLabels S l0A)) ≤ (l2I).toNatClampNeg) ∧ if (S.rI (wkAd (gInequalities_rowLabels S l0A)) (l2I).toNatClampNeg) = l1I then (Φ l2I S) else (wkLt (l2I + (1 : Int32)) fun x4 => rec 0 l0A l1I x4 S Φ))
def rX5_rowOf_go (F : Nat) : Nat → Nat → Nat → Int32 → Int32 → wPS → (Int32 → wPS → Prop) → Prop
  | 0, _, _, _, _, _, _ => False
  | k' + 1, lab, l0A, l1I, l2I, S, Φ => if lab = 0 then rX5_rowOf_b0 F (rX5_rowOf_go F k') l0A l1I l2I S Φ else False
def rX5_rowOf_s (F : Nat) (rec : Nat → Nat → Int32 → Int32 → wPS → (Int32 → wPS → Prop) → Prop) (l0A : Nat) (l1I : Int32) (S : wPS) (Φ : (Int32 → wPS → Prop)) : Prop :=
  rec 0 l0A l1I (0 : Int32) S Φ
def rX5_rowOf (F : Nat) (l0A : Nat) (l1I : Int32) (S : wPS) (Φ : (Int32 → wPS → Prop)) : Prop := rX5_rowOf_s F (rX5_rowOf_go F F) l0A l1I S Φ
set_option maxHeartbeats 4000000 in
set_option maxRecDepth 100000 in
theorem tX5_rowOf_go {l : Launch} {X : wkX} {d F : Nat} {S0 : wPS} {Φ : (Int32 → wPS → Prop)} (C : wkC X cX5_rowOf RX5 3 wvX5_rowOf) (hR : wkRm X d 0 0) (hd : 0 ≤ d) (E : wkEnd l X cX5_rowOf 3 (some .int) 0 0 (fun v' S'' => ∃ v : Int32, v' = some (.int v) ∧ Φ v S'' ∧ wkWF S'' ∧ wkExt S0 S'')) : ∀ k' : Nat, (∀ (l0A : Nat) (l1I : Int32) (l2I : Int32) (S : wPS), wkWF S → wkExt S0 S → wkIs S l0A 5 → rX5_rowOf_go F k' 0 l0A l1I l2I S Φ → wkGo l X 3 0 0 2 S [some (.ref l0A), some (.int l1I), some (.int l2I)] []) := by
  intro k'
  induction k' with
  | zero => exact fun l0A l1I l2I S hW hE hl0A h => h.elim
  | succ k' ih =>
    · intro l0A l1I l2I S hW hE hl0A h
      have h : rX5_rowOf_b0 F (rX5_rowOf_go F k') l0A l1I l2I S Φ := by
        rw [rX5_rowOf_go, if_pos (rfl : (0 : Nat) = 0)] at h
        exact h
      unfold rX5_rowOf_b0 at h
      refine wk_iload_n C dX5_rowOf_2 rfl rfl ?_
      refine wk_aload_n C dX5_rowOf_3 rfl rfl ?_
      refine wk_get C (v := .int (gInequalities_rows S l0A)) huX5_rowOf_5 hl0A.1 (fun cy => wAt_5 cy _ hl0A.2) rfl 4 (by decide) (List.mem_of_getElem? (i := 1) rfl) rfl rfl dX5_rowOf_4 ?_
      refine wk_icmp_ge C (tgt := 28) dX5_rowOf_7 (by decide) (fun c1 => ?_) (fun c1 => ?_)
      · rw [if_pos c1] at h
        refine wk_iconst C (v := (-1)) dX5_rowOf_28 (by decide) ?_
        exact E _ _ _ _ _ _ (Nat.le_refl 0) (Nat.le_refl 0) dX5_rowOf_29 ⟨(-1 : Int32), rfl, h, hW, hE⟩
      · rw [if_neg c1] at h
        refine wk_aload_n C dX5_rowOf_10 rfl rfl ?_
        refine wk_get C huX5_rowOf_5 hl0A.1 (fun cy => wAt_5 cy _ hl0A.2) rfl 1 (by decide) (List.mem_of_getElem? (i := 2) rfl) rfl (congrArg some (congrArg va_rf (wf_Inequalities_rowLabels hW hl0A).1)) dX5_rowOf_11 ?_
        refine wk_iload_n C dX5_rowOf_14 rfl rfl ?_
        obtain ⟨i2, h⟩ := h
        refine wk_iald C (wf_Inequalities_rowLabels hW hl0A).2.1 (wf_Inequalities_rowLabels hW hl0A).2.2 i2 rfl dX5_rowOf_15 ?_
        refine wk_iload_n C dX5_rowOf_16 rfl rfl ?_
        refine wk_icmp_ne C (tgt := 22) dX5_rowOf_17 (by decide) (fun c3 => ?_) (fun c3 => ?_)
        · rw [if_neg c3] at h
          obtain ⟨x4, ex4, h⟩ := wkLt_some h
          refine wk_iinc C (lv' := [some (.ref l0A), some (.int l1I), some (.int x4)]) dX5_rowOf_22 rfl (by rw [ex4]; rfl) (by decide) rfl ?_
          refine wk_goto C (tgt := 2) dX5_rowOf_25 (by decide) ?_
          exact wk_forget (lv' := [some (.ref l0A), some (.int l1I), some (.int x4)]) (wkLs.le ⟨rfl, rfl, rfl, trivial⟩) (ih _ _ _ _ hW hE hl0A h)
        · rw [if_pos c3] at h
          refine wk_iload_n C dX5_rowOf_20 rfl rfl ?_
          exact E _ _ _ _ _ _ (Nat.le_refl 0) (Nat.le_refl 0) dX5_rowOf_21 ⟨l2I, rfl, h, hW, hE⟩
set_option maxHeartbeats 4000000 in
set_option maxRecDepth 100000 in
theorem tX5_rowOf {l : Launch} {g : wkG} {F : Nat}  {S : wPS} {l0A : Nat} {l1I : Int32} {Φ : (Int32 → wPS → Prop)} (hW : wkWF S) (hl0A : wkIs S l0A 5) (h : rX5_rowOf F l0A l1I S Φ) : wkMet l g yX5_rowOf wvX5_rowOf 0 0 0 [.ref l0A, .int l1I] S (fun v' S'' => ∃ v : Int32, v' = some (.int v) ∧ Φ v S'' ∧ wkWF S'' ∧ wkExt S S'') := by
  refine wkMet_of (ret := (some .int)) (by decide) rfl (Nat.le_of_ble_eq_true rfl) (fun X hg C hR E => ?_)
  subst hg
  have hE : wkExt S S := wkExt.rf
  have hd : 0 ≤ 0 := Nat.le_refl _
  show wkGo l X 3 0 0 0 S [some (.ref l0A), some (.int l1I), none] []
  have ih := tX5_rowOf_go (F := F) C hR hd E F
  have h : rX5_rowOf_s F (rX5_rowOf_go F F) l0A l1I S Φ := h
  unfold rX5_rowOf_s at h
  refine wk_iconst C (v := 0) dX5_rowOf_0 (by decide) ?_
  refine wk_istore_n C (lv' := [some (.ref l0A), some (.int l1I), some (.int (0 : Int32))]) dX5_rowOf_1 rfl (by decide) rfl ?_
  exact wk_forget (lv' := [some (.ref l0A), some (.int l1I), some (.int (0 : Int32))]) (wkLs.le ⟨rfl, rfl, rfl, trivial⟩) (ih _ _ _ _ hW hE hl0A h)
def wvX5_valueOf : List Cond := .code yX5_valueOf cX5_valueOf 3 (some .long) :: (([.methodLink RX5 122 yX5_rowOf, .instanceMethod yX5_rowOf, .selects RX5 yX5_rowOf yX5_rowOf, .initialized RX5, .fieldLink RX5 13 "Witnessworks$Inequalities" "table" "[[J", .fieldLink RX5 86 "Witnessworks$Inequalities" "columns" "I"] : List Cond) ++ ((wsX50) ++ (wvX5_rowOf)))
theorem huX5_valueOf_5 : ∀ w ∈ u_ws RX5 TX5 7, w ∈ wvX5_valueOf := fun w h => List.mem_cons_of_mem _ (List.mem_append_right _ (List.mem_append_left _ h))
theorem hbX5_valueOf_X5_rowOf : ∀ w ∈ wvX5_rowOf, w ∈ wvX5_valueOf := fun w h => List.mem_cons_of_mem _ (List.mem_append_right _ (List.mem_append_right _ h))
theorem gdX5_valueOf : ∀ w ∈ wvX5_valueOf, wkGd w := wkGdC rfl (wkGdA (wkGdL (by decide +kernel)) (wkGdA gdX5 gdX5_rowOf))
def rX5_valueOf (F : Nat) (l0A : Nat) (l1I : Int32) (S : wPS) (Φ : (Int64 → wPS → Prop)) : Prop :=
  rX5_rowOf F l0A l1I S fun v1 S2 => if 0 ≤ v1 then (¬ (v1 < 0 ∨ S2.len (wkAd (gInequalities_table S2 l0A)) ≤ (v1).toNatClampNeg) ∧ ¬ ((gInequalities_columns S2 l0A) < 0 ∨ S2.len (wkAd (S2.rA (wkAd (gInequalities_table S2 l0A)) (v1).toNatClampNeg)) ≤ ((gInequalities_columns S2 l0A)).toNatClampNeg) ∧ Φ (S2.rJ (wkAd (S2.rA (wkAd (gInequalities_table S2 l0A)) (v1).toNatClampNeg)) ((gInequalities_columns S2 l0A)).toNatClampNeg) S2) else (Φ (0 : Int64) S2)
set_option maxHeartbeats 4000000 in
set_option maxRecDepth 100000 in
theorem tX5_valueOf {l : Launch} {g : wkG} {F : Nat}  {S : wPS} {l0A : Nat} {l1I : Int32} {Φ : (Int64 → wPS → Prop)} (hW : wkWF S) (hl0A : wkIs S l0A 5) (h : rX5_valueOf F l0A l1I S Φ) : wkMet l g yX5_valueOf wvX5_valueOf 1 0 0 [.ref l0A, .int l1I] S (fun v' S'' => ∃ v : Int64, v' = some (.long v) ∧ Φ v S'' ∧ wkWF S'' ∧ wkExt S S'') := by
  refine wkMet_of (ret := (some .long)) (by decide) rfl (Nat.le_of_ble_eq_true rfl) (fun X hg C hR E => ?_)
  subst hg
  have hE : wkExt S S := wkExt.rf
  have hd : 1 ≤ 1 := Nat.le_refl _
  show wkGo l X 3 0 0 0 S [some (.ref l0A), some (.int l1I), none] []
  unfold rX5_valueOf at h
  refine wk_aload_n C dX5_valueOf_0 rfl rfl ?_
  refine wk_iload_n C dX5_valueOf_1 rfl rfl ?_
  refine wk_callV C hR (As := [.int l1I]) (cnt := 1) (tX5_rowOf (l := l) hW hl0A h) rfl (wkGoodV (List.mem_of_getElem? (i := 1) rfl) (List.mem_of_getElem? (i := 2) rfl) (List.mem_of_getElem? (i := 3) rfl) (List.mem_of_getElem? (i := 4) rfl) hbX5_valueOf_X5_rowOf gdX5_rowOf) (Nat.le_trans (by decide : 0 + 1 ≤ 1) hd) (by decide) hl0A.1 (fun cy => wAt_5 cy _ hl0A.2) rfl ⟨by decide, by decide, by decide +kernel⟩ rfl rfl (Nat.le_of_ble_eq_true rfl) (Nat.le_refl 0) (Nat.le_refl 0) dX5_valueOf_2 (fun v' S2 hp => ?_)
  obtain ⟨v1, rfl, h, hWS2, hXS2⟩ := hp
  refine wk_istore_n C (lv' := [some (.ref l0A), some (.int l1I), some (.int v1)]) dX5_valueOf_5 rfl (by decide) rfl ?_
  refine wk_iload_n C dX5_valueOf_6 rfl rfl ?_
  refine wk_if_ge C (tgt := 14) dX5_valueOf_7 (by decide) (fun c6 => ?_) (fun c6 => ?_)
  · rw [if_pos c6] at h
    refine wk_aload_n C dX5_valueOf_14 rfl rfl ?_
    refine wk_get C huX5_valueOf_5 (hXS2 _ _ hl0A).1 (fun cy => wAt_5 cy _ (hXS2 _ _ hl0A).2) rfl 0 (by decide) (List.mem_of_getElem? (i := 5) rfl) rfl (congrArg some (congrArg va_rf (wf_Inequalities_table hWS2 (hXS2 _ _ hl0A)).1)) dX5_valueOf_15 ?_
    refine wk_iload_n C dX5_valueOf_18 rfl rfl ?_
    obtain ⟨i7, h⟩ := h
    have w8 := wf_R_J hWS2 (wf_Inequalities_table hWS2 (hXS2 _ _ hl0A)).2 (Nat.not_le.mp fun q => i7 (Or.inr q))
    refine wk_aald_J C (wf_Inequalities_table hWS2 (hXS2 _ _ hl0A)).2.1 (wf_Inequalities_table hWS2 (hXS2 _ _ hl0A)).2.2 i7 w8.1 dX5_valueOf_19 ?_
    refine wk_aload_n C dX5_valueOf_20 rfl rfl ?_
    refine wk_get C (v := .int (gInequalities_columns S2 l0A)) huX5_valueOf_5 (hXS2 _ _ hl0A).1 (fun cy => wAt_5 cy _ (hXS2 _ _ hl0A).2) rfl 5 (by decide) (List.mem_of_getElem? (i := 6) rfl) rfl rfl dX5_valueOf_21 ?_
    obtain ⟨i9, h⟩ := h
    refine wk_lald C w8.2.1 w8.2.2 i9 rfl dX5_valueOf_24 ?_
    exact E _ _ _ _ _ _ (Nat.le_refl 0) (Nat.le_refl 0) dX5_valueOf_25 ⟨(S2.rJ (wkAd (S2.rA (wkAd (gInequalities_table S2 l0A)) (v1).toNatClampNeg)) ((gInequalities_columns S2 l0A)).toNatClampNeg), rfl, h, hWS2, (wkExt.tr hE hXS2)⟩
  · rw [if_neg c6] at h
    refine wk_lconst C (v := 0) dX5_valueOf_10 (by decide) ?_
    refine wk_goto C (tgt := 25) dX5_valueOf_11 (by decide) ?_
    exact E _ _ _ _ _ _ (Nat.le_refl 0) (Nat.le_refl 0) dX5_valueOf_25 ⟨(0 : Int64), rfl, h, hWS2, (wkExt.tr hE hXS2)⟩
def wvX6_loadStates : List Cond := .code yX6_loadStates cX6_loadStates 4 none :: (([.fieldLink RX6 43 "Witnessworks$Machines" "size" "I", .fieldLink RX6 74 "Witnessworks$Entry" "itemCount" "I", .fieldLink RX6 11 "Witnessworks$Machines" "byZero" "[I", .methodLink RX6 77 yX3_at, .instanceMethod yX3_at, .selects RX3 yX3_at yX3_at, .initialized RX3, .fieldLink RX6 15 "Witnessworks$Machines" "byOne" "[I", .fieldLink RX6 18 "Witnessworks$Machines" "finals" "[I", .fieldLink RX6 73 "Witnessworks$Entry" "size" "I"] : List Cond) ++ ((wsX60 ++ (wsX30)) ++ (wvX3_at)))
theorem huX6_loadStates_6 : ∀ w ∈ u_ws RX6 TX6 8, w ∈ wvX6_loadStates := fun w h => List.mem_cons_of_mem _ (List.mem_append_right _ (List.mem_append_left _ (List.mem_append_left _ h)))
theorem huX6_loadStates_3 : ∀ w ∈ u_ws RX3 TX3 17, w ∈ wvX6_loadStates := fun w h => List.mem_cons_of_mem _ (List.mem_append_right _ (List.mem_append_left _ (List.mem_append_right _ h)))
theorem hbX6_loadStates_X3_at : ∀ w ∈ wvX3_at, w ∈ wvX6_loadStates := fun w h => List.mem_cons_of_mem _ (List.mem_append_right _ (List.mem_append_right _ h))
theorem gdX6_loadStates : ∀ w ∈ wvX6_loadStates, wkGd w := wkGdC rfl (wkGdA (wkGdL (by decide +kernel)) (wkGdA (wkGdA gdX6 gdX3) gdX3_at))
def rX6_loadStates_b0 (F : Nat) (rec : Nat → Nat → Nat → Int32 → Int32 → Nat → Int32 → Int32 → wPS → (Unit → wPS → Prop) → Prop) (l0A : Nat) (l1A : Nat) (l2I : Int32) (S : wPS) (Φ : (Unit → wPS → Prop)) : Prop :=
  if (gMachines_size S l0A) ≤ l2I then (Φ () S) else (if (gEntry_itemCount S l1A) ≤ l2I then (if (0 : Int32) = 0 then (rec 1 l0A l1A l2I (0 : Int32) (wkAd (gMachines_byZero S l0A)) l2I l2I S Φ) else (rX3_at F l1A l2I (0 : Int32) S fun v4 S5 => rec 1 l0A l1A l2I (0 : Int32) (wkAd (gMachines_byZero S l0A)) l2I v4 S5 Φ)) else (if (1 : Int32) = 0 then (rec 1 l0A l1A l2I (1 : Int32) (wkAd (gMachines_byZero S l0A)) l2I l2I S Φ) else (rX3_at F l1A l2I (0 : Int32) S fun v10 S11 => rec 1 l0A l1A l2I (1 : Int32) (wkAd (gMachines_byZero S l0A)) l2I v10 S11 Φ)))
def rX6_loadStates_b1 (F : Nat) (rec : Nat → Nat → Nat → Int32 → Int32 → Nat → Int32 → Int32 → wPS → (Unit → wPS → Prop) → Prop) (l0A : Nat) (l1A : Nat) (l2I : Int32) (l3I : Int32) (s0A : Nat) (s1I : Int32) (s2I : Int32) (S : wPS) (Φ : (Unit → wPS → Prop)) : Prop :=
  ¬ (s1I < 0 ∨ S.len s0A ≤ (s1I).toNatClampNeg) ∧ wkLt (wuI S s0A s1I s2I) fun S16 => if l3I = 0 then (¬ (l2I < 0 ∨ S16.len (wkAd (gMachines_byOne S16 l0A)) ≤ (l2I).toNatClampNeg) ∧ wkLt (wuI S16 (wkAd (gMachines_byOne S16 l0A)) l2I l2I) fun S19 => if l3I = 0 then (¬ (l2I < 0 ∨ S19.len (wkAd (gMachines_finals S19 l0A)) ≤ (l2I).toNatClampNeg) ∧ wkLt (wuI S19 (wkAd (gMachines_finals S19 l0A)) l2I (0 : Int32)) fun S22 => wkLt (l2I + (1 : Int32)) fun x23 => rec 0 l0A l1A x23 0 0 0 0 S22 Φ) else (rX3_at F l1A l2I (2 : Int32) S19 fun v24 S25 => ¬ (l2I < 0 ∨ S25.len (wkAd (gMachines_finals S19 l0A)) ≤ (l2I).toNatClampNeg) ∧ wkLt (wuI S25 (wkAd (gMachines_finals S19 l0A)) l2I v24) fun S30 => wkLt (l2I + (1 : Int32)) fun x31 => rec 0 l0A l1A x31 0 0 0 0 S30 Φ)) else (rX3_at F l1A l2I (1 : Int32) S16 fun v32 S33 => ¬ (l2I < 0 ∨ S33.len (wkAd (gMachines_byOne S16 l0A)) ≤ (l2I).toNatClampNeg) ∧ wkLt (wuI S33 (wkAd (gMachines_byOne S16 l0A)) l2I v32) fun S38 => if l3I = 0 then (¬ (l2I < 0 ∨ S38.len (wkAd (gMachines_finals S38 l0A)) ≤ (l2I).toNatClampNeg) ∧ wkLt (wuI S38 (wkAd (gMachines_finals S38 l0A)) l2I (0 : Int32)) fun S41 => wkLt (l2I + (1 : Int32)) fun x42 => rec 0 l0A l1A x42 0 0 0 0 S41 Φ) else (rX3_at F l1A l2I (2 : Int32) S38 fun v43 S44 => ¬ (l2I < 0 ∨ S44.len (wkAd (gMachines_finals S38 l0A)) ≤ (l2I).toNatClampNeg) ∧ wkLt (wuI S44 (wkAd (gMachines_finals S38 l0A)) l2I v43) fun S49 => wkLt (l2I + (1 : Int32)) fun x50 => rec 0 l0A l1A x50 0 0 0 0 S49 Φ))
def rX6_loadStates_go (F : Nat) : Nat → Nat → Nat → Nat → Int32 → Int32 → Nat → Int32 → Int32 → wPS → (Unit → wPS → Prop) → Prop
  | 0, _, _, _, _, _, _, _, _, _, _ => False
  | k' + 1, lab, l0A, l1A, l2I, l3I, s0A, s1I, s2I, S, Φ => if lab = 0 then rX6_loadStates_b0 F (rX6_loadStates_go F k') l0A l1A l2I S Φ else if lab = 1 then rX6_loadStates_b1 F (rX6_loadStates_go F k') l0A l1A l2I l3I s0A s1I s2I S Φ else False
def rX6_loadStates_s (F : Nat) (rec : Nat → Nat → Nat → Int32 → Int32 → Nat → Int32 → Int32 → wPS → (Unit → wPS → Prop) → Prop) (l0A : Nat) (l1A : Nat) (S : wPS) (Φ : (Unit → wPS → Prop)) : Prop :=
  wkLt (wu_Machines_size S l0A (gEntry_size S l1A)) fun S51 => rec 0 l0A l1A (0 : Int32) 0 0 0 0 S51 Φ
def rX6_loadStates (F : Nat) (l0A : Nat) (l1A : Nat) (S : wPS) (Φ : (Unit → wPS → Prop)) : Prop := rX6_loadStates_s F (rX6_loadStates_go F F) l0A l1A S Φ
set_option maxHeartbeats 4000000 in
set_option maxRecDepth 100000 in
theorem tX6_loadStates_go {l : Launch} {X : wkX} {d F : Nat} {S0 : wPS} {Φ : (Unit → wPS → Prop)} (C : wkC X cX6_loadStates RX6 4 wvX6_loadStates) (hR : wkRm X d 0 0) (hd : 1 ≤ d) (E : wkEnd l X cX6_loadStates 4 none 0 0 (fun v' S'' => ∃ v : Unit, v' = none ∧ Φ v S'' ∧ wkWF S'' ∧ wkExt S0 S'')) : ∀ k' : Nat, (∀ (l0A : Nat) (l1A : Nat) (l2I : Int32) (S : wPS), wkWF S → wkExt S0 S → wkIs S l0A 6 → wkIs S l1A 3 → rX6_loadStates_go F k' 0 l0A l1A l2I 0 0 0 0 S Φ → wkGo l X 4 0 0 10 S [some (.ref l0A), some (.ref l1A), some (.int l2I), none] []) ∧ (∀ (l0A : Nat) (l1A : Nat) (l2I : Int32) (l3I : Int32) (s0A : Nat) (s1I : Int32) (s2I : Int32) (S : wPS), wkWF S → wkExt S0 S → wkIs S l0A 6 → wkIs S l1A 3 → wkIs S s0A 13 → rX6_loadStates_go F k' 1 l0A l1A l2I l3I s0A s1I s2I S Φ → wkGo l X 4 0 0 51 S [some (.ref l0A), some (.ref l1A), some (.int l2I), some (.int l3I)] [.int s2I, .int s1I, .ref s0A]) := by
  intro k'
  induction k' with
  | zero => exact ⟨fun l0A l1A l2I S hW hE hl0A hl1A h => h.elim, fun l0A l1A l2I l3I s0A s1I s2I S hW hE hl0A hl1A hs0A h => h.elim⟩
  | succ k' ih =>
    refine ⟨?_, ?_⟩
    · intro l0A l1A l2I S hW hE hl0A hl1A h
      have h : rX6_loadStates_b0 F (rX6_loadStates_go F k') l0A l1A l2I S Φ := by
        rw [rX6_loadStates_go, if_pos (rfl : (0 : Nat) = 0)] at h
        exact h
      unfold rX6_loadStates_b0 at h
      refine wk_iload_n C dX6_loadStates_10 rfl rfl ?_
      refine wk_aload_n C dX6_loadStates_11 rfl rfl ?_
      refine wk_get C (v := .int (gMachines_size S l0A)) huX6_loadStates_6 hl0A.1 (fun cy => wAt_6 cy _ hl0A.2) rfl 7 (by decide) (List.mem_of_getElem? (i := 1) rfl) rfl rfl dX6_loadStates_12 ?_
      refine wk_icmp_ge C (tgt := 98) dX6_loadStates_15 (by decide) (fun c1 => ?_) (fun c1 => ?_)
      · rw [if_pos c1] at h
        exact E _ _ _ _ _ (Nat.le_refl 0) (Nat.le_refl 0) dX6_loadStates_98 ⟨(), rfl, h, hW, hE⟩
      · rw [if_neg c1] at h
        refine wk_iload_n C dX6_loadStates_18 rfl rfl ?_
        refine wk_aload_n C dX6_loadStates_19 rfl rfl ?_
        refine wk_get C (v := .int (gEntry_itemCount S l1A)) huX6_loadStates_3 hl1A.1 (fun cy => wAt_3 cy _ hl1A.2) rfl 6 (by decide) (List.mem_of_getElem? (i := 2) rfl) rfl rfl dX6_loadStates_20 ?_
        refine wk_icmp_ge C (tgt := 30) dX6_loadStates_23 (by decide) (fun c2 => ?_) (fun c2 => ?_)
        · rw [if_pos c2] at h
          refine wk_iconst C (v := 0) dX6_loadStates_30 (by decide) ?_
          refine wk_istore_n C (lv' := [some (.ref l0A), some (.ref l1A), some (.int l2I), some (.int (0 : Int32))]) dX6_loadStates_31 rfl (by decide) rfl ?_
          refine wk_aload_n C dX6_loadStates_32 rfl rfl ?_
          refine wk_get C huX6_loadStates_6 hl0A.1 (fun cy => wAt_6 cy _ hl0A.2) rfl 0 (by decide) (List.mem_of_getElem? (i := 3) rfl) rfl (congrArg some (congrArg va_rf (wf_Machines_byZero hW hl0A).1)) dX6_loadStates_33 ?_
          refine wk_iload_n C dX6_loadStates_36 rfl rfl ?_
          refine wk_iload_n C dX6_loadStates_37 rfl rfl ?_
          refine wk_if_eq C (tgt := 50) dX6_loadStates_38 (by decide) (fun c3 => ?_) (fun c3 => ?_)
          · rw [if_pos c3] at h
            refine wk_iload_n C dX6_loadStates_50 rfl rfl ?_
            exact wk_forget (lv' := [some (.ref l0A), some (.ref l1A), some (.int l2I), some (.int (0 : Int32))]) (wkLs.le ⟨rfl, rfl, rfl, rfl, trivial⟩) (ih.2 _ _ _ _ _ _ _ _ hW hE hl0A hl1A (wf_Machines_byZero hW hl0A).2 h)
          · rw [if_neg c3] at h
            refine wk_aload_n C dX6_loadStates_41 rfl rfl ?_
            refine wk_iload_n C dX6_loadStates_42 rfl rfl ?_
            refine wk_iconst C (v := 0) dX6_loadStates_43 (by decide) ?_
            refine wk_callV C hR (As := [.int l2I, .int (0 : Int32)]) (cnt := 2) (tX3_at (l := l) hW hl1A h) rfl (wkGoodV (List.mem_of_getElem? (i := 4) rfl) (List.mem_of_getElem? (i := 5) rfl) (List.mem_of_getElem? (i := 6) rfl) (List.mem_of_getElem? (i := 7) rfl) hbX6_loadStates_X3_at gdX3_at) (Nat.le_trans (by decide : 0 + 1 ≤ 1) hd) (by decide) hl1A.1 (fun cy => wAt_3 cy _ hl1A.2) rfl ⟨by decide, by decide, by decide +kernel⟩ rfl rfl (Nat.le_of_ble_eq_true rfl) (Nat.le_refl 0) (Nat.le_refl 0) dX6_loadStates_44 (fun v' S5 hp => ?_)
            obtain ⟨v4, rfl, h, hWS5, hXS5⟩ := hp
            refine wk_goto C (tgt := 51) dX6_loadStates_47 (by decide) ?_
            exact wk_forget (lv' := [some (.ref l0A), some (.ref l1A), some (.int l2I), some (.int (0 : Int32))]) (wkLs.le ⟨rfl, rfl, rfl, rfl, trivial⟩) (ih.2 _ _ _ _ _ _ _ _ hWS5 (wkExt.tr hE hXS5) (hXS5 _ _ hl0A) (hXS5 _ _ hl1A) (hXS5 _ _ (wf_Machines_byZero hW hl0A).2) h)
        · rw [if_neg c2] at h
          refine wk_iconst C (v := 1) dX6_loadStates_26 (by decide) ?_
          refine wk_goto C (tgt := 31) dX6_loadStates_27 (by decide) ?_
          refine wk_istore_n C (lv' := [some (.ref l0A), some (.ref l1A), some (.int l2I), some (.int (1 : Int32))]) dX6_loadStates_31 rfl (by decide) rfl ?_
          refine wk_aload_n C dX6_loadStates_32 rfl rfl ?_
          refine wk_get C huX6_loadStates_6 hl0A.1 (fun cy => wAt_6 cy _ hl0A.2) rfl 0 (by decide) (List.mem_of_getElem? (i := 3) rfl) rfl (congrArg some (congrArg va_rf (wf_Machines_byZero hW hl0A).1)) dX6_loadStates_33 ?_
          refine wk_iload_n C dX6_loadStates_36 rfl rfl ?_
          refine wk_iload_n C dX6_loadStates_37 rfl rfl ?_
          refine wk_if_eq C (tgt := 50) dX6_loadStates_38 (by decide) (fun c9 => ?_) (fun c9 => ?_)
          · rw [if_pos c9] at h
            refine wk_iload_n C dX6_loadStates_50 rfl rfl ?_
            exact wk_forget (lv' := [some (.ref l0A), some (.ref l1A), some (.int l2I), some (.int (1 : Int32))]) (wkLs.le ⟨rfl, rfl, rfl, rfl, trivial⟩) (ih.2 _ _ _ _ _ _ _ _ hW hE hl0A hl1A (wf_Machines_byZero hW hl0A).2 h)
          · rw [if_neg c9] at h
            refine wk_aload_n C dX6_loadStates_41 rfl rfl ?_
            refine wk_iload_n C dX6_loadStates_42 rfl rfl ?_
            refine wk_iconst C (v := 0) dX6_loadStates_43 (by decide) ?_
            refine wk_callV C hR (As := [.int l2I, .int (0 : Int32)]) (cnt := 2) (tX3_at (l := l) hW hl1A h) rfl (wkGoodV (List.mem_of_getElem? (i := 4) rfl) (List.mem_of_getElem? (i := 5) rfl) (List.mem_of_getElem? (i := 6) rfl) (List.mem_of_getElem? (i := 7) rfl) hbX6_loadStates_X3_at gdX3_at) (Nat.le_trans (by decide : 0 + 1 ≤ 1) hd) (by decide) hl1A.1 (fun cy => wAt_3 cy _ hl1A.2) rfl ⟨by decide, by decide, by decide +kernel⟩ rfl rfl (Nat.le_of_ble_eq_true rfl) (Nat.le_refl 0) (Nat.le_refl 0) dX6_loadStates_44 (fun v' S11 hp => ?_)
            obtain ⟨v10, rfl, h, hWS11, hXS11⟩ := hp
            refine wk_goto C (tgt := 51) dX6_loadStates_47 (by decide) ?_
            exact wk_forget (lv' := [some (.ref l0A), some (.ref l1A), some (.int l2I), some (.int (1 : Int32))]) (wkLs.le ⟨rfl, rfl, rfl, rfl, trivial⟩) (ih.2 _ _ _ _ _ _ _ _ hWS11 (wkExt.tr hE hXS11) (hXS11 _ _ hl0A) (hXS11 _ _ hl1A) (hXS11 _ _ (wf_Machines_byZero hW hl0A).2) h)
    · intro l0A l1A l2I l3I s0A s1I s2I S hW hE hl0A hl1A hs0A h
      have h : rX6_loadStates_b1 F (rX6_loadStates_go F k') l0A l1A l2I l3I s0A s1I s2I S Φ := by
        rw [rX6_loadStates_go, if_neg (show ¬ (1 : Nat) = 0 by decide), if_pos (rfl : (1 : Nat) = 1)] at h
        exact h
      unfold rX6_loadStates_b1 at h
      obtain ⟨i15, h⟩ := h
      obtain ⟨S16, eS16, h⟩ := wkLt_some h
      refine wk_iast C hs0A.1 hs0A.2 i15 eS16.symm dX6_loadStates_51 ?_
      have hWS16 : wkWF S16 := by rw [eS16]; exact hW
      have hXS16 : wkExt S S16 := by rw [eS16]; exact wkExt.rf
      refine wk_aload_n C dX6_loadStates_52 rfl rfl ?_
      refine wk_get C huX6_loadStates_6 (hXS16 _ _ hl0A).1 (fun cy => wAt_6 cy _ (hXS16 _ _ hl0A).2) rfl 1 (by decide) (List.mem_of_getElem? (i := 8) rfl) rfl (congrArg some (congrArg va_rf (wf_Machines_byOne hWS16 (hXS16 _ _ hl0A)).1)) dX6_loadStates_53 ?_
      refine wk_iload_n C dX6_loadStates_56 rfl rfl ?_
      refine wk_iload_n C dX6_loadStates_57 rfl rfl ?_
      refine wk_if_eq C (tgt := 70) dX6_loadStates_58 (by decide) (fun c17 => ?_) (fun c17 => ?_)
      · rw [if_pos c17] at h
        refine wk_iload_n C dX6_loadStates_70 rfl rfl ?_
        obtain ⟨i18, h⟩ := h
        obtain ⟨S19, eS19, h⟩ := wkLt_some h
        refine wk_iast C (wf_Machines_byOne hWS16 (hXS16 _ _ hl0A)).2.1 (wf_Machines_byOne hWS16 (hXS16 _ _ hl0A)).2.2 i18 eS19.symm dX6_loadStates_71 ?_
        have hWS19 : wkWF S19 := by rw [eS19]; exact hWS16
        have hXS19 : wkExt S16 S19 := by rw [eS19]; exact wkExt.rf
        refine wk_aload_n C dX6_loadStates_72 rfl rfl ?_
        refine wk_get C huX6_loadStates_6 (hXS19 _ _ (hXS16 _ _ hl0A)).1 (fun cy => wAt_6 cy _ (hXS19 _ _ (hXS16 _ _ hl0A)).2) rfl 2 (by decide) (List.mem_of_getElem? (i := 9) rfl) rfl (congrArg some (congrArg va_rf (wf_Machines_finals hWS19 (hXS19 _ _ (hXS16 _ _ hl0A))).1)) dX6_loadStates_73 ?_
        refine wk_iload_n C dX6_loadStates_76 rfl rfl ?_
        refine wk_iload_n C dX6_loadStates_77 rfl rfl ?_
        refine wk_if_eq C (tgt := 90) dX6_loadStates_78 (by decide) (fun c20 => ?_) (fun c20 => ?_)
        · rw [if_pos c20] at h
          refine wk_iconst C (v := 0) dX6_loadStates_90 (by decide) ?_
          obtain ⟨i21, h⟩ := h
          obtain ⟨S22, eS22, h⟩ := wkLt_some h
          refine wk_iast C (wf_Machines_finals hWS19 (hXS19 _ _ (hXS16 _ _ hl0A))).2.1 (wf_Machines_finals hWS19 (hXS19 _ _ (hXS16 _ _ hl0A))).2.2 i21 eS22.symm dX6_loadStates_91 ?_
          have hWS22 : wkWF S22 := by rw [eS22]; exact hWS19
          have hXS22 : wkExt S19 S22 := by rw [eS22]; exact wkExt.rf
          obtain ⟨x23, ex23, h⟩ := wkLt_some h
          refine wk_iinc C (lv' := [some (.ref l0A), some (.ref l1A), some (.int x23), some (.int l3I)]) dX6_loadStates_92 rfl (by rw [ex23]; rfl) (by decide) rfl ?_
          refine wk_goto C (tgt := 10) dX6_loadStates_95 (by decide) ?_
          exact wk_forget (lv' := [some (.ref l0A), some (.ref l1A), some (.int x23), none]) (wkLs.le ⟨rfl, rfl, rfl, trivial⟩) (ih.1 _ _ _ _ hWS22 (wkExt.tr (wkExt.tr (wkExt.tr hE hXS16) hXS19) hXS22) (hXS22 _ _ (hXS19 _ _ (hXS16 _ _ hl0A))) (hXS22 _ _ (hXS19 _ _ (hXS16 _ _ hl1A))) h)
        · rw [if_neg c20] at h
          refine wk_aload_n C dX6_loadStates_81 rfl rfl ?_
          refine wk_iload_n C dX6_loadStates_82 rfl rfl ?_
          refine wk_iconst C (v := 2) dX6_loadStates_83 (by decide) ?_
          refine wk_callV C hR (As := [.int l2I, .int (2 : Int32)]) (cnt := 2) (tX3_at (l := l) hWS19 (hXS19 _ _ (hXS16 _ _ hl1A)) h) rfl (wkGoodV (List.mem_of_getElem? (i := 4) rfl) (List.mem_of_getElem? (i := 5) rfl) (List.mem_of_getElem? (i := 6) rfl) (List.mem_of_getElem? (i := 7) rfl) hbX6_loadStates_X3_at gdX3_at) (Nat.le_trans (by decide : 0 + 1 ≤ 1) hd) (by decide) (hXS19 _ _ (hXS16 _ _ hl1A)).1 (fun cy => wAt_3 cy _ (hXS19 _ _ (hXS16 _ _ hl1A)).2) rfl ⟨by decide, by decide, by decide +kernel⟩ rfl rfl (Nat.le_of_ble_eq_true rfl) (Nat.le_refl 0) (Nat.le_refl 0) dX6_loadStates_84 (fun v' S25 hp => ?_)
          obtain ⟨v24, rfl, h, hWS25, hXS25⟩ := hp
          refine wk_goto C (tgt := 91) dX6_loadStates_87 (by decide) ?_
          obtain ⟨i29, h⟩ := h
          obtain ⟨S30, eS30, h⟩ := wkLt_some h
          refine wk_iast C (hXS25 _ _ (wf_Machines_finals hWS19 (hXS19 _ _ (hXS16 _ _ hl0A))).2).1 (hXS25 _ _ (wf_Machines_finals hWS19 (hXS19 _ _ (hXS16 _ _ hl0A))).2).2 i29 eS30.symm dX6_loadStates_91 ?_
          have hWS30 : wkWF S30 := by rw [eS30]; exact hWS25
          have hXS30 : wkExt S25 S30 := by rw [eS30]; exact wkExt.rf
          obtain ⟨x31, ex31, h⟩ := wkLt_some h
          refine wk_iinc C (lv' := [some (.ref l0A), some (.ref l1A), some (.int x31), some (.int l3I)]) dX6_loadStates_92 rfl (by rw [ex31]; rfl) (by decide) rfl ?_
          refine wk_goto C (tgt := 10) dX6_loadStates_95 (by decide) ?_
          exact wk_forget (lv' := [some (.ref l0A), some (.ref l1A), some (.int x31), none]) (wkLs.le ⟨rfl, rfl, rfl, trivial⟩) (ih.1 _ _ _ _ hWS30 (wkExt.tr (wkExt.tr (wkExt.tr (wkExt.tr hE hXS16) hXS19) hXS25) hXS30) (hXS30 _ _ (hXS25 _ _ (hXS19 _ _ (hXS16 _ _ hl0A)))) (hXS30 _ _ (hXS25 _ _ (hXS19 _ _ (hXS16 _ _ hl1A)))) h)
      · rw [if_neg c17] at h
        refine wk_aload_n C dX6_loadStates_61 rfl rfl ?_
        refine wk_iload_n C dX6_loadStates_62 rfl rfl ?_
        refine wk_iconst C (v := 1) dX6_loadStates_63 (by decide) ?_
        refine wk_callV C hR (As := [.int l2I, .int (1 : Int32)]) (cnt := 2) (tX3_at (l := l) hWS16 (hXS16 _ _ hl1A) h) rfl (wkGoodV (List.mem_of_getElem? (i := 4) rfl) (List.mem_of_getElem? (i := 5) rfl) (List.mem_of_getElem? (i := 6) rfl) (List.mem_of_getElem? (i := 7) rfl) hbX6_loadStates_X3_at gdX3_at) (Nat.le_trans (by decide : 0 + 1 ≤ 1) hd) (by decide) (hXS16 _ _ hl1A).1 (fun cy => wAt_3 cy _ (hXS16 _ _ hl1A).2) rfl ⟨by decide, by decide, by decide +kernel⟩ rfl rfl (Nat.le_of_ble_eq_true rfl) (Nat.le_refl 0) (Nat.le_refl 0) dX6_loadStates_64 (fun v' S33 hp => ?_)
        obtain ⟨v32, rfl, h, hWS33, hXS33⟩ := hp
        refine wk_goto C (tgt := 71) dX6_loadStates_67 (by decide) ?_
        obtain ⟨i37, h⟩ := h
        obtain ⟨S38, eS38, h⟩ := wkLt_some h
        refine wk_iast C (hXS33 _ _ (wf_Machines_byOne hWS16 (hXS16 _ _ hl0A)).2).1 (hXS33 _ _ (wf_Machines_byOne hWS16 (hXS16 _ _ hl0A)).2).2 i37 eS38.symm dX6_loadStates_71 ?_
        have hWS38 : wkWF S38 := by rw [eS38]; exact hWS33
        have hXS38 : wkExt S33 S38 := by rw [eS38]; exact wkExt.rf
        refine wk_aload_n C dX6_loadStates_72 rfl rfl ?_
        refine wk_get C huX6_loadStates_6 (hXS38 _ _ (hXS33 _ _ (hXS16 _ _ hl0A))).1 (fun cy => wAt_6 cy _ (hXS38 _ _ (hXS33 _ _ (hXS16 _ _ hl0A))).2) rfl 2 (by decide) (List.mem_of_getElem? (i := 9) rfl) rfl (congrArg some (congrArg va_rf (wf_Machines_finals hWS38 (hXS38 _ _ (hXS33 _ _ (hXS16 _ _ hl0A)))).1)) dX6_loadStates_73 ?_
        refine wk_iload_n C dX6_loadStates_76 rfl rfl ?_
        refine wk_iload_n C dX6_loadStates_77 rfl rfl ?_
        refine wk_if_eq C (tgt := 90) dX6_loadStates_78 (by decide) (fun c39 => ?_) (fun c39 => ?_)
        · rw [if_pos c39] at h
          refine wk_iconst C (v := 0) dX6_loadStates_90 (by decide) ?_
          obtain ⟨i40, h⟩ := h
          obtain ⟨S41, eS41, h⟩ := wkLt_some h
          refine wk_iast C (wf_Machines_finals hWS38 (hXS38 _ _ (hXS33 _ _ (hXS16 _ _ hl0A)))).2.1 (wf_Machines_finals hWS38 (hXS38 _ _ (hXS33 _ _ (hXS16 _ _ hl0A)))).2.2 i40 eS41.symm dX6_loadStates_91 ?_
          have hWS41 : wkWF S41 := by rw [eS41]; exact hWS38
          have hXS41 : wkExt S38 S41 := by rw [eS41]; exact wkExt.rf
          obtain ⟨x42, ex42, h⟩ := wkLt_some h
          refine wk_iinc C (lv' := [some (.ref l0A), some (.ref l1A), some (.int x42), some (.int l3I)]) dX6_loadStates_92 rfl (by rw [ex42]; rfl) (by decide) rfl ?_
          refine wk_goto C (tgt := 10) dX6_loadStates_95 (by decide) ?_
          exact wk_forget (lv' := [some (.ref l0A), some (.ref l1A), some (.int x42), none]) (wkLs.le ⟨rfl, rfl, rfl, trivial⟩) (ih.1 _ _ _ _ hWS41 (wkExt.tr (wkExt.tr (wkExt.tr (wkExt.tr hE hXS16) hXS33) hXS38) hXS41) (hXS41 _ _ (hXS38 _ _ (hXS33 _ _ (hXS16 _ _ hl0A)))) (hXS41 _ _ (hXS38 _ _ (hXS33 _ _ (hXS16 _ _ hl1A)))) h)
        · rw [if_neg c39] at h
          refine wk_aload_n C dX6_loadStates_81 rfl rfl ?_
          refine wk_iload_n C dX6_loadStates_82 rfl rfl ?_
          refine wk_iconst C (v := 2) dX6_loadStates_83 (by decide) ?_
          refine wk_callV C hR (As := [.int l2I, .int (2 : Int32)]) (cnt := 2) (tX3_at (l := l) hWS38 (hXS38 _ _ (hXS33 _ _ (hXS16 _ _ hl1A))) h) rfl (wkGoodV (List.mem_of_getElem? (i := 4) rfl) (List.mem_of_getElem? (i := 5) rfl) (List.mem_of_getElem? (i := 6) rfl) (List.mem_of_getElem? (i := 7) rfl) hbX6_loadStates_X3_at gdX3_at) (Nat.le_trans (by decide : 0 + 1 ≤ 1) hd) (by decide) (hXS38 _ _ (hXS33 _ _ (hXS16 _ _ hl1A))).1 (fun cy => wAt_3 cy _ (hXS38 _ _ (hXS33 _ _ (hXS16 _ _ hl1A))).2) rfl ⟨by decide, by decide, by decide +kernel⟩ rfl rfl (Nat.le_of_ble_eq_true rfl) (Nat.le_refl 0) (Nat.le_refl 0) dX6_loadStates_84 (fun v' S44 hp => ?_)
          obtain ⟨v43, rfl, h, hWS44, hXS44⟩ := hp
          refine wk_goto C (tgt := 91) dX6_loadStates_87 (by decide) ?_
          obtain ⟨i48, h⟩ := h
          obtain ⟨S49, eS49, h⟩ := wkLt_some h
          refine wk_iast C (hXS44 _ _ (wf_Machines_finals hWS38 (hXS38 _ _ (hXS33 _ _ (hXS16 _ _ hl0A)))).2).1 (hXS44 _ _ (wf_Machines_finals hWS38 (hXS38 _ _ (hXS33 _ _ (hXS16 _ _ hl0A)))).2).2 i48 eS49.symm dX6_loadStates_91 ?_
          have hWS49 : wkWF S49 := by rw [eS49]; exact hWS44
          have hXS49 : wkExt S44 S49 := by rw [eS49]; exact wkExt.rf
          obtain ⟨x50, ex50, h⟩ := wkLt_some h
          refine wk_iinc C (lv' := [some (.ref l0A), some (.ref l1A), some (.int x50), some (.int l3I)]) dX6_loadStates_92 rfl (by rw [ex50]; rfl) (by decide) rfl ?_
          refine wk_goto C (tgt := 10) dX6_loadStates_95 (by decide) ?_
          exact wk_forget (lv' := [some (.ref l0A), some (.ref l1A), some (.int x50), none]) (wkLs.le ⟨rfl, rfl, rfl, trivial⟩) (ih.1 _ _ _ _ hWS49 (wkExt.tr (wkExt.tr (wkExt.tr (wkExt.tr (wkExt.tr hE hXS16) hXS33) hXS38) hXS44) hXS49) (hXS49 _ _ (hXS44 _ _ (hXS38 _ _ (hXS33 _ _ (hXS16 _ _ hl0A))))) (hXS49 _ _ (hXS44 _ _ (hXS38 _ _ (hXS33 _ _ (hXS16 _ _ hl1A))))) h)
set_option maxHeartbeats 4000000 in
set_option maxRecDepth 100000 in
theorem tX6_loadStates {l : Launch} {g : wkG} {F : Nat}  {S : wPS} {l0A : Nat} {l1A : Nat} {Φ : (Unit → wPS → Prop)} (hW : wkWF S) (hl0A : wkIs S l0A 6) (hl1A : wkIs S l1A 3) (h : rX6_loadStates F l0A l1A S Φ) : wkMet l g yX6_loadStates wvX6_loadStates 1 0 0 [.ref l0A, .ref l1A] S (fun v' S'' => ∃ v : Unit, v' = none ∧ Φ v S'' ∧ wkWF S'' ∧ wkExt S S'') := by
  refine wkMet_of (ret := none) (by decide) rfl (Nat.le_of_ble_eq_true rfl) (fun X hg C hR E => ?_)
  subst hg
  have hE : wkExt S S := wkExt.rf
  have hd : 1 ≤ 1 := Nat.le_refl _
  show wkGo l X 4 0 0 0 S [some (.ref l0A), some (.ref l1A), none, none] []
  have ih := tX6_loadStates_go (F := F) C hR hd E F
  have h : rX6_loadStates_s F (rX6_loadStates_go F F) l0A l1A S Φ := h
  unfold rX6_loadStates_s at h
  refine wk_aload_n C dX6_loadStates_0 rfl rfl ?_
  refine wk_aload_n C dX6_loadStates_1 rfl rfl ?_
  refine wk_get C (v := .int (gEntry_size S l1A)) huX6_loadStates_3 hl1A.1 (fun cy => wAt_3 cy _ hl1A.2) rfl 1 (by decide) (List.mem_of_getElem? (i := 10) rfl) rfl rfl dX6_loadStates_2 ?_
  obtain ⟨S51, eS51, h⟩ := wkLt_some h
  refine wk_put C (S' := S51) huX6_loadStates_6 hl0A.1 (fun cy => wAt_6 cy _ hl0A.2) rfl 7 (by decide) (List.mem_of_getElem? (i := 1) rfl) rfl tyX6_ok nmX6 rfl (ty := .int) rfl rfl rfl (by show 7 < 8; decide) (fun cy b => by rw [eS51]; exact wSt_6_7 cy _ hl0A.2 _ b) (by rw [eS51]) dX6_loadStates_5 ?_
  have hWS51 : wkWF S51 := by rw [eS51]; exact hW
  have hXS51 : wkExt S S51 := by rw [eS51]; exact wkExt.rf
  refine wk_iconst C (v := 0) dX6_loadStates_8 (by decide) ?_
  refine wk_istore_n C (lv' := [some (.ref l0A), some (.ref l1A), some (.int (0 : Int32)), none]) dX6_loadStates_9 rfl (by decide) rfl ?_
  exact wk_forget (lv' := [some (.ref l0A), some (.ref l1A), some (.int (0 : Int32)), none]) (wkLs.le ⟨rfl, rfl, rfl, trivial⟩) (ih.1 _ _ _ _ hWS51 (wkExt.tr hE hXS51) (hXS51 _ _ hl0A) (hXS51 _ _ hl1A) h)
