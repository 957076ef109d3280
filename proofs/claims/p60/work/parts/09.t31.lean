def wvX5_clearTable : List Cond := .code yX5_clearTable cX5_clearTable 2 none :: (([.fieldLink RX5 13 "Witnessworks$Inequalities" "table" "[[J", .methodLink RX5 105 yJ7_fill_d0a16, .static yJ7_fill_d0a16, .initialized RJ7] : List Cond) ++ ((wsX50) ++ (wvJ7_fill_d0a16)))
theorem huX5_clearTable_5 : ∀ w ∈ u_ws RX5 TX5 7, w ∈ wvX5_clearTable := fun w h => List.mem_cons_of_mem _ (List.mem_append_right _ (List.mem_append_left _ h))
theorem hbX5_clearTable_J7_fill_d0a16 : ∀ w ∈ wvJ7_fill_d0a16, w ∈ wvX5_clearTable := fun w h => List.mem_cons_of_mem _ (List.mem_append_right _ (List.mem_append_right _ h))
theorem gdX5_clearTable : ∀ w ∈ wvX5_clearTable, wkGd w := wkGdC rfl (wkGdA (wkGdL (by decide +kernel)) (wkGdA gdX5 gdJ7_fill_d0a16))
def rX5_clearTable_b0 (F : Nat) (rec : Nat → Nat → Int32 → wPS → (Unit → wPS → Prop) → Prop) (l0A : Nat) (l1I : Int32) (S : wPS) (Φ : (Unit → wPS → Prop)) : Prop :=
  if (14 : Int32) ≤ l1I then (Φ () S) else (¬ (l1I < 0 ∨ S.len (wkAd (gInequalities_table S l0A)) ≤ (l1I).toNatClampNeg) ∧ rJ7_fill_d0a16 F (wkAd (S.rA (wkAd (gInequalities_table S l0A)) (l1I).toNatClampNeg)) (0 : Int64) S fun v4 S5 => wkLt (l1I + (1 : Int32)) fun x9 => rec 0 l0A x9 S5 Φ)
def rX5_clearTable_go (F : Nat) : Nat → Nat → Nat → Int32 → wPS → (Unit → wPS → Prop) → Prop
  | 0, _, _, _, _, _ => False
  | k' + 1, lab, l0A, l1I, S, Φ => if lab = 0 then rX5_clearTable_b0 F (rX5_clearTable_go F k') l0A l1I S Φ else False
def rX5_clearTable_s (F : Nat) (rec : Nat → Nat → Int32 → wPS → (Unit → wPS → Prop) → Prop) (l0A : Nat) (S : wPS) (Φ : (Unit → wPS → Prop)) : Prop :=
  rec 0 l0A (0 : Int32) S Φ
def rX5_clearTable (F : Nat) (l0A : Nat) (S : wPS) (Φ : (Unit → wPS → Prop)) : Prop := rX5_clearTable_s F (rX5_clearTable_go F F) l0A S Φ
set_option maxHeartbeats 4000000 in
set_option maxRecDepth 100000 in
theorem tX5_clearTable_go {l : Launch} {X : wkX} {d F : Nat} {S0 : wPS} {Φ : (Unit → wPS → Prop)} (C : wkC X cX5_clearTable RX5 2 wvX5_clearTable) (hR : wkRm X d 0 0) (hd : 1 ≤ d) (E : wkEnd l X cX5_clearTable 2 none 0 0 (fun v' S'' => ∃ v : Unit, v' = none ∧ Φ v S'' ∧ wkWF S'' ∧ wkExt S0 S'')) : ∀ k' : Nat, (∀ (l0A : Nat) (l1I : Int32) (S : wPS), wkWF S → wkExt S0 S → wkIs S l0A 5 → rX5_clearTable_go F k' 0 l0A l1I S Φ → wkGo l X 2 0 0 2 S [some (.ref l0A), some (.int l1I)] []) := by
  intro k'
  induction k' with
  | zero => exact fun l0A l1I S hW hE hl0A h => h.elim
  | succ k' ih =>
    · intro l0A l1I S hW hE hl0A h
      have h : rX5_clearTable_b0 F (rX5_clearTable_go F k') l0A l1I S Φ := by
        rw [rX5_clearTable_go, if_pos (rfl : (0 : Nat) = 0)] at h
        exact h
      unfold rX5_clearTable_b0 at h
      refine wk_iload_n C dX5_clearTable_2 rfl rfl ?_
      refine wk_bipush C (v := 14) dX5_clearTable_3 (by decide) ?_
      refine wk_icmp_ge C (tgt := 24) dX5_clearTable_5 (by decide) (fun c1 => ?_) (fun c1 => ?_)
      · rw [if_pos c1] at h
        exact E _ _ _ _ _ (Nat.le_refl 0) (Nat.le_refl 0) dX5_clearTable_24 ⟨(), rfl, h, hW, hE⟩
      · rw [if_neg c1] at h
        refine wk_aload_n C dX5_clearTable_8 rfl rfl ?_
        refine wk_get C huX5_clearTable_5 hl0A.1 (fun cy => wAt_5 cy _ hl0A.2) rfl 0 (by decide) (List.mem_of_getElem? (i := 1) rfl) rfl (congrArg some (congrArg va_rf (wf_Inequalities_table hW hl0A).1)) dX5_clearTable_9 ?_
        refine wk_iload_n C dX5_clearTable_12 rfl rfl ?_
        obtain ⟨i2, h⟩ := h
        have w3 := wf_R_J hW (wf_Inequalities_table hW hl0A).2 (Nat.not_le.mp fun q => i2 (Or.inr q))
        refine wk_aald_J C (wf_Inequalities_table hW hl0A).2.1 (wf_Inequalities_table hW hl0A).2.2 i2 w3.1 dX5_clearTable_13 ?_
        refine wk_lconst C (v := 0) dX5_clearTable_14 (by decide) ?_
        refine wk_callW C hR (As := [.ref (wkAd (S.rA (wkAd (gInequalities_table S l0A)) (l1I).toNatClampNeg)), .long (0 : Int64)]) (cnt := 2) (tJ7_fill_d0a16 (l := l) hW w3.2 h) rfl (wkGoodW (List.mem_of_getElem? (i := 2) rfl) (List.mem_of_getElem? (i := 3) rfl) (List.mem_of_getElem? (i := 4) rfl) hbX5_clearTable_J7_fill_d0a16 gdJ7_fill_d0a16) (Nat.le_trans (by decide : 0 + 1 ≤ 1) hd) (by decide) ⟨by decide, by decide, by decide +kernel⟩ rfl rfl (Nat.le_of_ble_eq_true rfl) (Nat.le_refl 0) (Nat.le_refl 0) dX5_clearTable_15 (fun v' S5 hp => ?_)
        obtain ⟨v4, rfl, h, hWS5, hXS5⟩ := hp
        obtain ⟨x9, ex9, h⟩ := wkLt_some h
        refine wk_iinc C (lv' := [some (.ref l0A), some (.int x9)]) dX5_clearTable_18 rfl (by rw [ex9]; rfl) (by decide) rfl ?_
        refine wk_goto C (tgt := 2) dX5_clearTable_21 (by decide) ?_
        exact wk_forget (lv' := [some (.ref l0A), some (.int x9)]) (wkLs.le ⟨rfl, rfl, trivial⟩) (ih _ _ _ hWS5 (wkExt.tr hE hXS5) (hXS5 _ _ hl0A) h)
set_option maxHeartbeats 4000000 in
set_option maxRecDepth 100000 in
theorem tX5_clearTable {l : Launch} {g : wkG} {F : Nat}  {S : wPS} {l0A : Nat} {Φ : (Unit → wPS → Prop)} (hW : wkWF S) (hl0A : wkIs S l0A 5) (h : rX5_clearTable F l0A S Φ) : wkMet l g yX5_clearTable wvX5_clearTable 1 0 0 [.ref l0A] S (fun v' S'' => ∃ v : Unit, v' = none ∧ Φ v S'' ∧ wkWF S'' ∧ wkExt S S'') := by
  refine wkMet_of (ret := none) (by decide) rfl (Nat.le_of_ble_eq_true rfl) (fun X hg C hR E => ?_)
  subst hg
  have hE : wkExt S S := wkExt.rf
  have hd : 1 ≤ 1 := Nat.le_refl _
  show wkGo l X 2 0 0 0 S [some (.ref l0A), none] []
  have ih := tX5_clearTable_go (F := F) C hR hd E F
  have h : rX5_clearTable_s F (rX5_clearTable_go F F) l0A S Φ := h
  unfold rX5_clearTable_s at h
  refine wk_iconst C (v := 0) dX5_clearTable_0 (by decide) ?_
  refine wk_istore_n C (lv' := [some (.ref l0A), some (.int (0 : Int32))]) dX5_clearTable_1 rfl (by decide) rfl ?_
  exact wk_forget (lv' := [some (.ref l0A), some (.int (0 : Int32))]) (wkLs.le ⟨rfl, rfl, trivial⟩) (ih _ _ _ hW hE hl0A h)
def wvX5_improves : List Cond := .code yX5_improves cX5_improves 5 (some .boolean) :: (([.fieldLink RX5 86 "Witnessworks$Inequalities" "columns" "I", .methodLink RX5 126 yX5_leavingRow, .instanceMethod yX5_leavingRow, .selects RX5 yX5_leavingRow yX5_leavingRow, .initialized RX5, .methodLink RX5 129 yX5_exchange, .instanceMethod yX5_exchange, .selects RX5 yX5_exchange yX5_exchange, .fieldLink RX5 20 "Witnessworks$Inequalities" "columnLabels" "[I", .fieldLink RX5 13 "Witnessworks$Inequalities" "table" "[[J", .fieldLink RX5 111 "Witnessworks$Inequalities" "locked" "I"] : List Cond) ++ ((wsX50) ++ (wvX5_leavingRow ++ (wvX5_exchange))))
theorem huX5_improves_5 : ∀ w ∈ u_ws RX5 TX5 7, w ∈ wvX5_improves := fun w h => List.mem_cons_of_mem _ (List.mem_append_right _ (List.mem_append_left _ h))
theorem hbX5_improves_X5_leavingRow : ∀ w ∈ wvX5_leavingRow, w ∈ wvX5_improves := fun w h => List.mem_cons_of_mem _ (List.mem_append_right _ (List.mem_append_right _ (List.mem_append_left _ h)))
theorem hbX5_improves_X5_exchange : ∀ w ∈ wvX5_exchange, w ∈ wvX5_improves := fun w h => List.mem_cons_of_mem _ (List.mem_append_right _ (List.mem_append_right _ (List.mem_append_right _ h)))
theorem gdX5_improves : ∀ w ∈ wvX5_improves, wkGd w := wkGdC rfl (wkGdA (wkGdL (by decide +kernel)) (wkGdA gdX5 (wkGdA gdX5_leavingRow gdX5_exchange)))
def rX5_improves_b0 (F : Nat) (rec : Nat → Nat → Int32 → Int32 → Int32 → Int32 → wPS → (Int32 → wPS → Prop) → Prop) (l0A : Nat) (l1I : Int32) (l2I : Int32) (l3I : Int32) (S : wPS) (Φ : (Int32 → wPS → Prop)) : Prop :=
  if (gInequalities_columns S l0A) ≤ l3I then (if 0 ≤ l2I then (rX5_leavingRow F l0A l2I S fun v3 S4 => if 0 ≤ v3 then (rX5_exchange F l0A v3 l2I S4 fun v9 S10 => Φ (1 : Int32) S10) else (Φ (0 : Int32) S4)) else (Φ (0 : Int32) S)) else (if l2I < 0 then (rec 1 l0A l1I l2I l3I (1 : Int32) S Φ) else (¬ (l3I < 0 ∨ S.len (wkAd (gInequalities_columnLabels S l0A)) ≤ (l3I).toNatClampNeg) ∧ ¬ (l2I < 0 ∨ S.len (wkAd (gInequalities_columnLabels S l0A)) ≤ (l2I).toNatClampNeg) ∧ if (S.rI (wkAd (gInequalities_columnLabels S l0A)) (l2I).toNatClampNeg) ≤ (S.rI (wkAd (gInequalities_columnLabels S l0A)) (l3I).toNatClampNeg) then (rec 1 l0A l1I l2I l3I (0 : Int32) S Φ) else (rec 1 l0A l1I l2I l3I (1 : Int32) S Φ)))
def rX5_improves_b1 (F : Nat) (rec : Nat → Nat → Int32 → Int32 → Int32 → Int32 → wPS → (Int32 → wPS → Prop) → Prop) (l0A : Nat) (l1I : Int32) (l2I : Int32) (l3I : Int32) (s0I : Int32) (S : wPS) (Φ : (Int32 → wPS → Prop)) : Prop :=
  ¬ (l1I < 0 ∨ S.len (wkAd (gInequalities_table S l0A)) ≤ (l1I).toNatClampNeg) ∧ ¬ (l3I < 0 ∨ S.len (wkAd (S.rA (wkAd (gInequalities_table S l0A)) (l1I).toNatClampNeg)) ≤ (l3I).toNatClampNeg) ∧ if (lg_cmp (S.rJ (wkAd (S.rA (wkAd (gInequalities_table S l0A)) (l1I).toNatClampNeg)) (l3I).toNatClampNeg) (0 : Int64)) ≤ 0 then (wkLt (l3I + (1 : Int32)) fun x22 => rec 0 l0A l1I l2I x22 0 S Φ) else (¬ (l3I < 0 ∨ S.len (wkAd (gInequalities_columnLabels S l0A)) ≤ (l3I).toNatClampNeg) ∧ if (((gInequalities_locked S l0A) >>> ((S.rI (wkAd (gInequalities_columnLabels S l0A)) (l3I).toNatClampNeg) &&& 31)) &&& (1 : Int32)) = 0 then (if s0I = 0 then (wkLt (l3I + (1 : Int32)) fun x27 => rec 0 l0A l1I l2I x27 0 S Φ) else (wkLt (l3I + (1 : Int32)) fun x28 => rec 0 l0A l1I l3I x28 0 S Φ)) else (wkLt (l3I + (1 : Int32)) fun x25 => rec 0 l0A l1I l2I x25 0 S Φ))
def rX5_improves_go (F : Nat) : Nat → Nat → Nat → Int32 → Int32 → Int32 → Int32 → wPS → (Int32 → wPS → Prop) → Prop
  | 0, _, _, _, _, _, _, _, _ => False
  | k' + 1, lab, l0A, l1I, l2I, l3I, s0I, S, Φ => if lab = 0 then rX5_improves_b0 F (rX5_improves_go F k') l0A l1I l2I l3I S Φ else if lab = 1 then rX5_improves_b1 F (rX5_improves_go F k') l0A l1I l2I l3I s0I S Φ else False
def rX5_improves_s (F : Nat) (rec : Nat → Nat → Int32 → Int32 → Int32 → Int32 → wPS → (Int32 → wPS → Prop) → Prop) (l0A : Nat) (l1I : Int32) (S : wPS) (Φ : (Int32 → wPS → Prop)) : Prop :=
  rec 0 l0A l1I (-1 : Int32) (0 : Int32) 0 S Φ
def rX5_improves (F : Nat) (l0A : Nat) (l1I : Int32) (S : wPS) (Φ : (Int32 → wPS → Prop)) : Prop := rX5_improves_s F (rX5_improves_go F F) l0A l1I S Φ
set_option maxHeartbeats 4000000 in
set_option maxRecDepth 100000 in
theorem tX5_improves_go {l : Launch} {X : wkX} {d F : Nat} {S0 : wPS} {Φ : (Int32 → wPS → Prop)} (C : wkC X cX5_improves RX5 5 wvX5_improves) (hR : wkRm X d 0 0) (hd : 2 ≤ d) (E : wkEnd l X cX5_improves 5 (some .boolean) 0 0 (fun v' S'' => ∃ v : Int32, v' = some (.int v) ∧ Φ v S'' ∧ wkWF S'' ∧ wkExt S0 S'')) : ∀ k' : Nat, (∀ (l0A : Nat) (l1I : Int32) (l2I : Int32) (l3I : Int32) (S : wPS), wkWF S → wkExt S0 S → wkIs S l0A 5 → rX5_improves_go F k' 0 l0A l1I l2I l3I 0 S Φ → wkGo l X 5 0 0 4 S [some (.ref l0A), some (.int l1I), some (.int l2I), some (.int l3I), none] []) ∧ (∀ (l0A : Nat) (l1I : Int32) (l2I : Int32) (l3I : Int32) (s0I : Int32) (S : wPS), wkWF S → wkExt S0 S → wkIs S l0A 5 → rX5_improves_go F k' 1 l0A l1I l2I l3I s0I S Φ → wkGo l X 5 0 0 36 S [some (.ref l0A), some (.int l1I), some (.int l2I), some (.int l3I), none] [.int s0I]) := by
  intro k'
  induction k' with
  | zero => exact ⟨fun l0A l1I l2I l3I S hW hE hl0A h => h.elim, fun l0A l1I l2I l3I s0I S hW hE hl0A h => h.elim⟩
  | succ k' ih =>
    refine ⟨?_, ?_⟩
    · intro l0A l1I l2I l3I S hW hE hl0A h
      have h : rX5_improves_b0 F (rX5_improves_go F k') l0A l1I l2I l3I S Φ := by
        rw [rX5_improves_go, if_pos (rfl : (0 : Nat) = 0)] at h
        exact h
      unfold rX5_improves_b0 at h
      refine wk_iload_n C dX5_improves_4 rfl rfl ?_
      refine wk_aload_n C dX5_improves_5 rfl rfl ?_
      refine wk_get C (v := .int (gInequalities_columns S l0A)) huX5_improves_5 hl0A.1 (fun cy => wAt_5 cy _ hl0A.2) rfl 5 (by decide) (List.mem_of_getElem? (i := 1) rfl) rfl rfl dX5_improves_6 ?_
      refine wk_icmp_ge C (tgt := 80) dX5_improves_9 (by decide) (fun c1 => ?_) (fun c1 => ?_)
      · rw [if_pos c1] at h
        refine wk_iload_n C dX5_improves_80 rfl rfl ?_
        refine wk_if_ge C (tgt := 86) dX5_improves_81 (by decide) (fun c2 => ?_) (fun c2 => ?_)
        · rw [if_pos c2] at h
          refine wk_aload_n C dX5_improves_86 rfl rfl ?_
          refine wk_iload_n C dX5_improves_87 rfl rfl ?_
          refine wk_callV C hR (As := [.int l2I]) (cnt := 1) (tX5_leavingRow (l := l) hW hl0A h) rfl (wkGoodV (List.mem_of_getElem? (i := 2) rfl) (List.mem_of_getElem? (i := 3) rfl) (List.mem_of_getElem? (i := 4) rfl) (List.mem_of_getElem? (i := 5) rfl) hbX5_improves_X5_leavingRow gdX5_leavingRow) (Nat.le_trans (by decide : 1 + 1 ≤ 2) hd) (by decide) hl0A.1 (fun cy => wAt_5 cy _ hl0A.2) rfl ⟨by decide, by decide, by decide +kernel⟩ rfl rfl (Nat.le_of_ble_eq_true rfl) (Nat.le_refl 0) (Nat.le_refl 0) dX5_improves_88 (fun v' S4 hp => ?_)
          obtain ⟨v3, rfl, h, hWS4, hXS4⟩ := hp
          refine wk_istore_n C (lv' := [some (.ref l0A), some (.int l1I), some (.int l2I), some (.int v3), none]) dX5_improves_91 rfl (by decide) rfl ?_
          refine wk_iload_n C dX5_improves_92 rfl rfl ?_
          refine wk_if_ge C (tgt := 98) dX5_improves_93 (by decide) (fun c8 => ?_) (fun c8 => ?_)
          · rw [if_pos c8] at h
            refine wk_aload_n C dX5_improves_98 rfl rfl ?_
            refine wk_iload_n C dX5_improves_99 rfl rfl ?_
            refine wk_iload_n C dX5_improves_100 rfl rfl ?_
            refine wk_callV C hR (As := [.int v3, .int l2I]) (cnt := 2) (tX5_exchange (l := l) hWS4 (hXS4 _ _ hl0A) h) rfl (wkGoodV (List.mem_of_getElem? (i := 6) rfl) (List.mem_of_getElem? (i := 7) rfl) (List.mem_of_getElem? (i := 8) rfl) (List.mem_of_getElem? (i := 5) rfl) hbX5_improves_X5_exchange gdX5_exchange) (Nat.le_trans (by decide : 0 + 1 ≤ 2) hd) (by decide) (hXS4 _ _ hl0A).1 (fun cy => wAt_5 cy _ (hXS4 _ _ hl0A).2) rfl ⟨by decide, by decide, by decide +kernel⟩ rfl rfl (Nat.le_of_ble_eq_true rfl) (Nat.le_refl 0) (Nat.le_refl 0) dX5_improves_101 (fun v' S10 hp => ?_)
            obtain ⟨v9, rfl, h, hWS10, hXS10⟩ := hp
            refine wk_iconst C (v := 1) dX5_improves_104 (by decide) ?_
            exact E _ _ _ _ _ _ (Nat.le_refl 0) (Nat.le_refl 0) dX5_improves_105 rfl ⟨(1 : Int32), rfl, h, hWS10, (wkExt.tr (wkExt.tr hE hXS4) hXS10)⟩
          · rw [if_neg c8] at h
            refine wk_iconst C (v := 0) dX5_improves_96 (by decide) ?_
            exact E _ _ _ _ _ _ (Nat.le_refl 0) (Nat.le_refl 0) dX5_improves_97 rfl ⟨(0 : Int32), rfl, h, hWS4, (wkExt.tr hE hXS4)⟩
        · rw [if_neg c2] at h
          refine wk_iconst C (v := 0) dX5_improves_84 (by decide) ?_
          exact E _ _ _ _ _ _ (Nat.le_refl 0) (Nat.le_refl 0) dX5_improves_85 rfl ⟨(0 : Int32), rfl, h, hW, hE⟩
      · rw [if_neg c1] at h
        refine wk_iload_n C dX5_improves_12 rfl rfl ?_
        refine wk_if_lt C (tgt := 31) dX5_improves_13 (by decide) (fun c14 => ?_) (fun c14 => ?_)
        · rw [if_pos c14] at h
          refine wk_iconst C (v := 1) dX5_improves_31 (by decide) ?_
          refine wk_goto C (tgt := 36) dX5_improves_32 (by decide) ?_
          exact wk_forget (lv' := [some (.ref l0A), some (.int l1I), some (.int l2I), some (.int l3I), none]) (wkLs.le ⟨rfl, rfl, rfl, rfl, trivial⟩) (ih.2 _ _ _ _ _ _ hW hE hl0A h)
        · rw [if_neg c14] at h
          refine wk_aload_n C dX5_improves_16 rfl rfl ?_
          refine wk_get C huX5_improves_5 hl0A.1 (fun cy => wAt_5 cy _ hl0A.2) rfl 2 (by decide) (List.mem_of_getElem? (i := 9) rfl) rfl (congrArg some (congrArg va_rf (wf_Inequalities_columnLabels hW hl0A).1)) dX5_improves_17 ?_
          refine wk_iload_n C dX5_improves_20 rfl rfl ?_
          obtain ⟨i15, h⟩ := h
          refine wk_iald C (wf_Inequalities_columnLabels hW hl0A).2.1 (wf_Inequalities_columnLabels hW hl0A).2.2 i15 rfl dX5_improves_21 ?_
          refine wk_aload_n C dX5_improves_22 rfl rfl ?_
          refine wk_get C huX5_improves_5 hl0A.1 (fun cy => wAt_5 cy _ hl0A.2) rfl 2 (by decide) (List.mem_of_getElem? (i := 9) rfl) rfl (congrArg some (congrArg va_rf (wf_Inequalities_columnLabels hW hl0A).1)) dX5_improves_23 ?_
          refine wk_iload_n C dX5_improves_26 rfl rfl ?_
          obtain ⟨i16, h⟩ := h
          refine wk_iald C (wf_Inequalities_columnLabels hW hl0A).2.1 (wf_Inequalities_columnLabels hW hl0A).2.2 i16 rfl dX5_improves_27 ?_
          refine wk_icmp_ge C (tgt := 35) dX5_improves_28 (by decide) (fun c17 => ?_) (fun c17 => ?_)
          · rw [if_pos c17] at h
            refine wk_iconst C (v := 0) dX5_improves_35 (by decide) ?_
            exact wk_forget (lv' := [some (.ref l0A), some (.int l1I), some (.int l2I), some (.int l3I), none]) (wkLs.le ⟨rfl, rfl, rfl, rfl, trivial⟩) (ih.2 _ _ _ _ _ _ hW hE hl0A h)
          · rw [if_neg c17] at h
            refine wk_iconst C (v := 1) dX5_improves_31 (by decide) ?_
            refine wk_goto C (tgt := 36) dX5_improves_32 (by decide) ?_
            exact wk_forget (lv' := [some (.ref l0A), some (.int l1I), some (.int l2I), some (.int l3I), none]) (wkLs.le ⟨rfl, rfl, rfl, rfl, trivial⟩) (ih.2 _ _ _ _ _ _ hW hE hl0A h)
    · intro l0A l1I l2I l3I s0I S hW hE hl0A h
      have h : rX5_improves_b1 F (rX5_improves_go F k') l0A l1I l2I l3I s0I S Φ := by
        rw [rX5_improves_go, if_neg (show ¬ (1 : Nat) = 0 by decide), if_pos (rfl : (1 : Nat) = 1)] at h
        exact h
      unfold rX5_improves_b1 at h
      refine wk_istore C (lv' := [some (.ref l0A), some (.int l1I), some (.int l2I), some (.int l3I), some (.int s0I)]) dX5_improves_36 (by decide) rfl ?_
      refine wk_aload_n C dX5_improves_38 rfl rfl ?_
      refine wk_get C huX5_improves_5 hl0A.1 (fun cy => wAt_5 cy _ hl0A.2) rfl 0 (by decide) (List.mem_of_getElem? (i := 10) rfl) rfl (congrArg some (congrArg va_rf (wf_Inequalities_table hW hl0A).1)) dX5_improves_39 ?_
      refine wk_iload_n C dX5_improves_42 rfl rfl ?_
      obtain ⟨i18, h⟩ := h
      have w19 := wf_R_J hW (wf_Inequalities_table hW hl0A).2 (Nat.not_le.mp fun q => i18 (Or.inr q))
      refine wk_aald_J C (wf_Inequalities_table hW hl0A).2.1 (wf_Inequalities_table hW hl0A).2.2 i18 w19.1 dX5_improves_43 ?_
      refine wk_iload_n C dX5_improves_44 rfl rfl ?_
      obtain ⟨i20, h⟩ := h
      refine wk_lald C w19.2.1 w19.2.2 i20 rfl dX5_improves_45 ?_
      refine wk_lconst C (v := 0) dX5_improves_46 (by decide) ?_
      refine wk_lcmp C dX5_improves_47 rfl ?_
      refine wk_if_le C (tgt := 74) dX5_improves_48 (by decide) (fun c21 => ?_) (fun c21 => ?_)
      · rw [if_pos c21] at h
        obtain ⟨x22, ex22, h⟩ := wkLt_some h
        refine wk_iinc C (lv' := [some (.ref l0A), some (.int l1I), some (.int l2I), some (.int x22), some (.int s0I)]) dX5_improves_74 rfl (by rw [ex22]; rfl) (by decide) rfl ?_
        refine wk_goto C (tgt := 4) dX5_improves_77 (by decide) ?_
        exact wk_forget (lv' := [some (.ref l0A), some (.int l1I), some (.int l2I), some (.int x22), none]) (wkLs.le ⟨rfl, rfl, rfl, rfl, trivial⟩) (ih.1 _ _ _ _ _ hW hE hl0A h)
      · rw [if_neg c21] at h
        refine wk_aload_n C dX5_improves_51 rfl rfl ?_
        refine wk_get C (v := .int (gInequalities_locked S l0A)) huX5_improves_5 hl0A.1 (fun cy => wAt_5 cy _ hl0A.2) rfl 3 (by decide) (List.mem_of_getElem? (i := 11) rfl) rfl rfl dX5_improves_52 ?_
        refine wk_aload_n C dX5_improves_55 rfl rfl ?_
        refine wk_get C huX5_improves_5 hl0A.1 (fun cy => wAt_5 cy _ hl0A.2) rfl 2 (by decide) (List.mem_of_getElem? (i := 9) rfl) rfl (congrArg some (congrArg va_rf (wf_Inequalities_columnLabels hW hl0A).1)) dX5_improves_56 ?_
        refine wk_iload_n C dX5_improves_59 rfl rfl ?_
        obtain ⟨i23, h⟩ := h
        refine wk_iald C (wf_Inequalities_columnLabels hW hl0A).2.1 (wf_Inequalities_columnLabels hW hl0A).2.2 i23 rfl dX5_improves_60 ?_
        refine wk_ishr C dX5_improves_61 rfl ?_
        refine wk_iconst C (v := 1) dX5_improves_62 (by decide) ?_
        refine wk_iand C dX5_improves_63 rfl ?_
        refine wk_if_ne C (tgt := 74) dX5_improves_64 (by decide) (fun c24 => ?_) (fun c24 => ?_)
        · rw [if_neg c24] at h
          obtain ⟨x25, ex25, h⟩ := wkLt_some h
          refine wk_iinc C (lv' := [some (.ref l0A), some (.int l1I), some (.int l2I), some (.int x25), some (.int s0I)]) dX5_improves_74 rfl (by rw [ex25]; rfl) (by decide) rfl ?_
          refine wk_goto C (tgt := 4) dX5_improves_77 (by decide) ?_
          exact wk_forget (lv' := [some (.ref l0A), some (.int l1I), some (.int l2I), some (.int x25), none]) (wkLs.le ⟨rfl, rfl, rfl, rfl, trivial⟩) (ih.1 _ _ _ _ _ hW hE hl0A h)
        · rw [if_pos c24] at h
          refine wk_iload C dX5_improves_67 rfl ?_
          refine wk_if_eq C (tgt := 74) dX5_improves_69 (by decide) (fun c26 => ?_) (fun c26 => ?_)
          · rw [if_pos c26] at h
            obtain ⟨x27, ex27, h⟩ := wkLt_some h
            refine wk_iinc C (lv' := [some (.ref l0A), some (.int l1I), some (.int l2I), some (.int x27), some (.int s0I)]) dX5_improves_74 rfl (by rw [ex27]; rfl) (by decide) rfl ?_
            refine wk_goto C (tgt := 4) dX5_improves_77 (by decide) ?_
            exact wk_forget (lv' := [some (.ref l0A), some (.int l1I), some (.int l2I), some (.int x27), none]) (wkLs.le ⟨rfl, rfl, rfl, rfl, trivial⟩) (ih.1 _ _ _ _ _ hW hE hl0A h)
          · rw [if_neg c26] at h
            refine wk_iload_n C dX5_improves_72 rfl rfl ?_
            refine wk_istore_n C (lv' := [some (.ref l0A), some (.int l1I), some (.int l3I), some (.int l3I), some (.int s0I)]) dX5_improves_73 rfl (by decide) rfl ?_
            obtain ⟨x28, ex28, h⟩ := wkLt_some h
            refine wk_iinc C (lv' := [some (.ref l0A), some (.int l1I), some (.int l3I), some (.int x28), some (.int s0I)]) dX5_improves_74 rfl (by rw [ex28]; rfl) (by decide) rfl ?_
            refine wk_goto C (tgt := 4) dX5_improves_77 (by decide) ?_
            exact wk_forget (lv' := [some (.ref l0A), some (.int l1I), some (.int l3I), some (.int x28), none]) (wkLs.le ⟨rfl, rfl, rfl, rfl, trivial⟩) (ih.1 _ _ _ _ _ hW hE hl0A h)
set_option maxHeartbeats 4000000 in
set_option maxRecDepth 100000 in
theorem tX5_improves {l : Launch} {g : wkG} {F : Nat}  {S : wPS} {l0A : Nat} {l1I : Int32} {Φ : (Int32 → wPS → Prop)} (hW : wkWF S) (hl0A : wkIs S l0A 5) (h : rX5_improves F l0A l1I S Φ) : wkMet l g yX5_improves wvX5_improves 2 0 0 [.ref l0A, .int l1I] S (fun v' S'' => ∃ v : Int32, v' = some (.int v) ∧ Φ v S'' ∧ wkWF S'' ∧ wkExt S S'') := by
  refine wkMet_of (ret := (some .boolean)) (by decide) rfl (Nat.le_of_ble_eq_true rfl) (fun X hg C hR E => ?_)
  subst hg
  have hE : wkExt S S := wkExt.rf
  have hd : 2 ≤ 2 := Nat.le_refl _
  show wkGo l X 5 0 0 0 S [some (.ref l0A), some (.int l1I), none, none, none] []
  have ih := tX5_improves_go (F := F) C hR hd E F
  have h : rX5_improves_s F (rX5_improves_go F F) l0A l1I S Φ := h
  unfold rX5_improves_s at h
  refine wk_iconst C (v := (-1)) dX5_improves_0 (by decide) ?_
  refine wk_istore_n C (lv' := [some (.ref l0A), some (.int l1I), some (.int (-1 : Int32)), none, none]) dX5_improves_1 rfl (by decide) rfl ?_
  refine wk_iconst C (v := 0) dX5_improves_2 (by decide) ?_
  refine wk_istore_n C (lv' := [some (.ref l0A), some (.int l1I), some (.int (-1 : Int32)), some (.int (0 : Int32)), none]) dX5_improves_3 rfl (by decide) rfl ?_
  exact wk_forget (lv' := [some (.ref l0A), some (.int l1I), some (.int (-1 : Int32)), some (.int (0 : Int32)), none]) (wkLs.le ⟨rfl, rfl, rfl, rfl, trivial⟩) (ih.1 _ _ _ _ _ hW hE hl0A h)
def wvX5_leftSideBy : List Cond := .code yX5_leftSideBy cX5_leftSideBy 6 (some .long) :: (([.fieldLink RX5 37 "Witnessworks$Entry" "size" "I", .methodLink RX5 96 yX5_times, .static yX5_times, .initialized RX5, .methodLink RX5 143 yX9_at, .instanceMethod yX9_at, .selects RX9 yX9_at yX9_at, .initialized RX9] : List Cond) ++ ((wsX30) ++ (wvX5_times ++ (wvX9_at))))
theorem huX5_leftSideBy_3 : ∀ w ∈ u_ws RX3 TX3 17, w ∈ wvX5_leftSideBy := fun w h => List.mem_cons_of_mem _ (List.mem_append_right _ (List.mem_append_left _ h))
theorem hbX5_leftSideBy_X5_times : ∀ w ∈ wvX5_times, w ∈ wvX5_leftSideBy := fun w h => List.mem_cons_of_mem _ (List.mem_append_right _ (List.mem_append_right _ (List.mem_append_left _ h)))
theorem hbX5_leftSideBy_X9_at : ∀ w ∈ wvX9_at, w ∈ wvX5_leftSideBy := fun w h => List.mem_cons_of_mem _ (List.mem_append_right _ (List.mem_append_right _ (List.mem_append_right _ h)))
theorem gdX5_leftSideBy : ∀ w ∈ wvX5_leftSideBy, wkGd w := wkGdC rfl (wkGdA (wkGdL (by decide +kernel)) (wkGdA gdX3 (wkGdA gdX5_times gdX9_at)))
def rX5_leftSideBy_b0 (F : Nat) (rec : Nat → Nat → Int32 → Nat → Int64 → Int32 → wPS → (Int64 → wPS → Prop) → Prop) (l0A : Nat) (l1I : Int32) (l2A : Nat) (l3J : Int64) (l5I : Int32) (S : wPS) (Φ : (Int64 → wPS → Prop)) : Prop :=
  if (gEntry_size S l0A) ≤ l5I then (Φ l3J S) else (rX5_times F l0A l1I l5I S fun v2 S3 => rX9_at F l2A (l5I + (1 : Int32)) S3 fun v7 S8 => wkLt ((l3J + ((Int32.toInt64 v2) * (Int32.toInt64 v7)))) fun x12 => wkLt (l5I + (1 : Int32)) fun x13 => rec 0 l0A l1I l2A x12 x13 S8 Φ)
def rX5_leftSideBy_go (F : Nat) : Nat → Nat → Nat → Int32 → Nat → Int64 → Int32 → wPS → (Int64 → wPS → Prop) → Prop
  | 0, _, _, _, _, _, _, _, _ => False
  | k' + 1, lab, l0A, l1I, l2A, l3J, l5I, S, Φ => if lab = 0 then rX5_leftSideBy_b0 F (rX5_leftSideBy_go F k') l0A l1I l2A l3J l5I S Φ else False
def rX5_leftSideBy_s (F : Nat) (rec : Nat → Nat → Int32 → Nat → Int64 → Int32 → wPS → (Int64 → wPS → Prop) → Prop) (l0A : Nat) (l1I : Int32) (l2A : Nat) (S : wPS) (Φ : (Int64 → wPS → Prop)) : Prop :=
  rec 0 l0A l1I l2A (0 : Int64) (0 : Int32) S Φ
def rX5_leftSideBy (F : Nat) (l0A : Nat) (l1I : Int32) (l2A : Nat) (S : wPS) (Φ : (Int64 → wPS → Prop)) : Prop := rX5_leftSideBy_s F (rX5_leftSideBy_go F F) l0A l1I l2A S Φ
set_option maxHeartbeats 4000000 in
set_option maxRecDepth 100000 in
theorem tX5_leftSideBy_go {l : Launch} {X : wkX} {d F : Nat} {S0 : wPS} {Φ : (Int64 → wPS → Prop)} (C : wkC X cX5_leftSideBy RX5 6 wvX5_leftSideBy) (hR : wkRm X d 0 0) (hd : 2 ≤ d) (E : wkEnd l X cX5_leftSideBy 6 (some .long) 0 0 (fun v' S'' => ∃ v : Int64, v' = some (.long v) ∧ Φ v S'' ∧ wkWF S'' ∧ wkExt S0 S'')) : ∀ k' : Nat, (∀ (l0A : Nat) (l1I : Int32) (l2A : Nat) (l3J : Int64) (l5I : Int32) (S : wPS), wkWF S → wkExt S0 S → wkIs S l0A 3 → wkIs S l2A 9 → rX5_leftSideBy_go F k' 0 l0A l1I l2A l3J l5I S Φ → wkGo l X 6 0 0 5 S [some (.ref l0A), some (.int l1I), some (.ref l2A), some (.long l3J), none, some (.int l5I)] []) := by
  intro k'
  induction k' with
  | zero => exact fun l0A l1I l2A l3J l5I S hW hE hl0A hl2A h => h.elim
  | succ k' ih =>
    · intro l0A l1I l2A l3J l5I S hW hE hl0A hl2A h
      have h : rX5_leftSideBy_b0 F (rX5_leftSideBy_go F k') l0A l1I l2A l3J l5I S Φ := by
        rw [rX5_leftSideBy_go, if_pos (rfl : (0 : Nat) = 0)] at h
        exact h
      unfold rX5_leftSideBy_b0 at h
      refine wk_iload C dX5_leftSideBy_5 rfl ?_
      refine wk_aload_n C dX5_leftSideBy_7 rfl rfl ?_
      refine wk_get C (v := .int (gEntry_size S l0A)) huX5_leftSideBy_3 hl0A.1 (fun cy => wAt_3 cy _ hl0A.2) rfl 1 (by decide) (List.mem_of_getElem? (i := 1) rfl) rfl rfl dX5_leftSideBy_8 ?_
      refine wk_icmp_ge C (tgt := 41) dX5_leftSideBy_11 (by decide) (fun c1 => ?_) (fun c1 => ?_)
      · rw [if_pos c1] at h
        refine wk_lload_n C dX5_leftSideBy_41 rfl rfl ?_
        exact E _ _ _ _ _ _ (Nat.le_refl 0) (Nat.le_refl 0) dX5_leftSideBy_42 ⟨l3J, rfl, h, hW, hE⟩
      · rw [if_neg c1] at h
        refine wk_lload_n C dX5_leftSideBy_14 rfl rfl ?_
        refine wk_aload_n C dX5_leftSideBy_15 rfl rfl ?_
        refine wk_iload_n C dX5_leftSideBy_16 rfl rfl ?_
        refine wk_iload C dX5_leftSideBy_17 rfl ?_
        refine wk_callW C hR (As := [.ref l0A, .int l1I, .int l5I]) (cnt := 3) (tX5_times (l := l) hW hl0A h) rfl (wkGoodW (List.mem_of_getElem? (i := 2) rfl) (List.mem_of_getElem? (i := 3) rfl) (List.mem_of_getElem? (i := 4) rfl) hbX5_leftSideBy_X5_times gdX5_times) (Nat.le_trans (by decide : 1 + 1 ≤ 2) hd) (by decide) ⟨by decide, by decide, by decide +kernel⟩ rfl rfl (Nat.le_of_ble_eq_true rfl) (Nat.le_refl 0) (Nat.le_refl 0) dX5_leftSideBy_19 (fun v' S3 hp => ?_)
        obtain ⟨v2, rfl, h, hWS3, hXS3⟩ := hp
        refine wk_i2l C dX5_leftSideBy_22 rfl ?_
        refine wk_aload_n C dX5_leftSideBy_23 rfl rfl ?_
        refine wk_iload C dX5_leftSideBy_24 rfl ?_
        refine wk_iconst C (v := 1) dX5_leftSideBy_26 (by decide) ?_
        refine wk_iadd C dX5_leftSideBy_27 rfl ?_
        refine wk_callV C hR (As := [.int (l5I + (1 : Int32))]) (cnt := 1) (tX9_at (l := l) hWS3 (hXS3 _ _ hl2A) h) rfl (wkGoodV (List.mem_of_getElem? (i := 5) rfl) (List.mem_of_getElem? (i := 6) rfl) (List.mem_of_getElem? (i := 7) rfl) (List.mem_of_getElem? (i := 8) rfl) hbX5_leftSideBy_X9_at gdX9_at) (Nat.le_trans (by decide : 0 + 1 ≤ 2) hd) (by decide) (hXS3 _ _ hl2A).1 (fun cy => wAt_9 cy _ (hXS3 _ _ hl2A).2) rfl ⟨by decide, by decide, by decide +kernel⟩ rfl rfl (Nat.le_of_ble_eq_true rfl) (Nat.le_refl 0) (Nat.le_refl 0) dX5_leftSideBy_28 (fun v' S8 hp => ?_)
        obtain ⟨v7, rfl, h, hWS8, hXS8⟩ := hp
        refine wk_i2l C dX5_leftSideBy_31 rfl ?_
        refine wk_lmul C dX5_leftSideBy_32 rfl ?_
        refine wk_ladd C dX5_leftSideBy_33 rfl ?_
        obtain ⟨x12, ex12, h⟩ := wkLt_some h
        refine wk_topl ex12 ?_
        refine wk_lstore_n C (lv' := [some (.ref l0A), some (.int l1I), some (.ref l2A), some (.long x12), none, some (.int l5I)]) dX5_leftSideBy_34 rfl (by decide) rfl ?_
        obtain ⟨x13, ex13, h⟩ := wkLt_some h
        refine wk_iinc C (lv' := [some (.ref l0A), some (.int l1I), some (.ref l2A), some (.long x12), none, some (.int x13)]) dX5_leftSideBy_35 rfl (by rw [ex13]; rfl) (by decide) rfl ?_
        refine wk_goto C (tgt := 5) dX5_leftSideBy_38 (by decide) ?_
        exact wk_forget (lv' := [some (.ref l0A), some (.int l1I), some (.ref l2A), some (.long x12), none, some (.int x13)]) (wkLs.le ⟨rfl, rfl, rfl, rfl, rfl, trivial⟩) (ih _ _ _ _ _ _ hWS8 (wkExt.tr (wkExt.tr hE hXS3) hXS8) (hXS8 _ _ (hXS3 _ _ hl0A)) (hXS8 _ _ (hXS3 _ _ hl2A)) h)
set_option maxHeartbeats 4000000 in
set_option maxRecDepth 100000 in
theorem tX5_leftSideBy {l : Launch} {g : wkG} {F : Nat}  {S : wPS} {l0A : Nat} {l1I : Int32} {l2A : Nat} {Φ : (Int64 → wPS → Prop)} (hW : wkWF S) (hl0A : wkIs S l0A 3) (hl2A : wkIs S l2A 9) (h : rX5_leftSideBy F l0A l1I l2A S Φ) : wkMet l g yX5_leftSideBy wvX5_leftSideBy 2 0 0 [.ref l0A, .int l1I, .ref l2A] S (fun v' S'' => ∃ v : Int64, v' = some (.long v) ∧ Φ v S'' ∧ wkWF S'' ∧ wkExt S S'') := by
  refine wkMet_of (ret := (some .long)) (by decide) rfl (Nat.le_of_ble_eq_true rfl) (fun X hg C hR E => ?_)
  subst hg
  have hE : wkExt S S := wkExt.rf
  have hd : 2 ≤ 2 := Nat.le_refl _
  show wkGo l X 6 0 0 0 S [some (.ref l0A), some (.int l1I), some (.ref l2A), none, none, none] []
  have ih := tX5_leftSideBy_go (F := F) C hR hd E F
  have h : rX5_leftSideBy_s F (rX5_leftSideBy_go F F) l0A l1I l2A S Φ := h
  unfold rX5_leftSideBy_s at h
  refine wk_lconst C (v := 0) dX5_leftSideBy_0 (by decide) ?_
  refine wk_lstore_n C (lv' := [some (.ref l0A), some (.int l1I), some (.ref l2A), some (.long (0 : Int64)), none, none]) dX5_leftSideBy_1 rfl (by decide) rfl ?_
  refine wk_iconst C (v := 0) dX5_leftSideBy_2 (by decide) ?_
  refine wk_istore C (lv' := [some (.ref l0A), some (.int l1I), some (.ref l2A), some (.long (0 : Int64)), none, some (.int (0 : Int32))]) dX5_leftSideBy_3 (by decide) rfl ?_
  exact wk_forget (lv' := [some (.ref l0A), some (.int l1I), some (.ref l2A), some (.long (0 : Int64)), none, some (.int (0 : Int32))]) (wkLs.le ⟨rfl, rfl, rfl, rfl, rfl, trivial⟩) (ih _ _ _ _ _ _ hW hE hl0A hl2A h)
