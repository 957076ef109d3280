def wvX10_findNext : List Cond := .code yX10_findNext cX10_findNext 4 none :: (([.fieldLink RX10 75 "Witnessworks$Entry" "itemCount" "I", .methodLink RX10 91 yX3_at, .instanceMethod yX3_at, .selects RX3 yX3_at yX3_at, .initialized RX3, .methodLink RX10 190 yX10_replaceAll, .instanceMethod yX10_replaceAll, .selects RX10 yX10_replaceAll yX10_replaceAll, .initialized RX10, .fieldLink RX10 187 "Witnessworks$Words" "nextCount" "I"] : List Cond) ++ ((wsX30 ++ (wsX100)) ++ (wvX3_at ++ (wvX10_replaceAll))))
theorem huX10_findNext_3 : ∀ w ∈ u_ws RX3 TX3 17, w ∈ wvX10_findNext := fun w h => List.mem_cons_of_mem _ (List.mem_append_right _ (List.mem_append_left _ (List.mem_append_left _ h)))
theorem huX10_findNext_10 : ∀ w ∈ u_ws RX10 TX10 12, w ∈ wvX10_findNext := fun w h => List.mem_cons_of_mem _ (List.mem_append_right _ (List.mem_append_left _ (List.mem_append_right _ h)))
theorem hbX10_findNext_X3_at : ∀ w ∈ wvX3_at, w ∈ wvX10_findNext := fun w h => List.mem_cons_of_mem _ (List.mem_append_right _ (List.mem_append_right _ (List.mem_append_left _ h)))
theorem hbX10_findNext_X10_replaceAll : ∀ w ∈ wvX10_replaceAll, w ∈ wvX10_findNext := fun w h => List.mem_cons_of_mem _ (List.mem_append_right _ (List.mem_append_right _ (List.mem_append_right _ h)))
theorem gdX10_findNext : ∀ w ∈ wvX10_findNext, wkGd w := wkGdC rfl (wkGdA (wkGdL (by decide +kernel)) (wkGdA (wkGdA gdX3 gdX10) (wkGdA gdX3_at gdX10_replaceAll)))
def rX10_findNext_b0 (F : Nat) (rec : Nat → Nat → Nat → Int32 → Int32 → wPS → (Unit → wPS → Prop) → Prop) (l0A : Nat) (l1A : Nat) (l2I : Int32) (l3I : Int32) (S : wPS) (Φ : (Unit → wPS → Prop)) : Prop :=
  if (gEntry_itemCount S l1A) ≤ l3I then (Φ () S) else (rX3_at F l1A l3I (0 : Int32) S fun v2 S3 => rX3_at F l1A l3I (1 : Int32) S3 fun v7 S8 => rX10_replaceAll F l0A l1A l2I v2 v7 S8 fun v12 S13 => rX3_at F l1A l3I (1 : Int32) S13 fun v17 S18 => rX3_at F l1A l3I (0 : Int32) S18 fun v22 S23 => rX10_replaceAll F l0A l1A l2I v17 v22 S23 fun v27 S28 => wkLt (l3I + (1 : Int32)) fun x32 => rec 0 l0A l1A l2I x32 S28 Φ)
def rX10_findNext_go (F : Nat) : Nat → Nat → Nat → Nat → Int32 → Int32 → wPS → (Unit → wPS → Prop) → Prop
  | 0, _, _, _, _, _, _, _ => False
  | k' + 1, lab, l0A, l1A, l2I, l3I, S, Φ => if lab = 0 then rX10_findNext_b0 F (rX10_findNext_go F k') l0A l1A l2I l3I S Φ else False
def rX10_findNext_s (F : Nat) (rec : Nat → Nat → Nat → Int32 → Int32 → wPS → (Unit → wPS → Prop) → Prop) (l0A : Nat) (l1A : Nat) (l2I : Int32) (S : wPS) (Φ : (Unit → wPS → Prop)) : Prop :=
  wkLt (wu_Words_nextCount S l0A (0 : Int32)) fun S33 => rec 0 l0A l1A l2I (1 : Int32) S33 Φ
def rX10_findNext (F : Nat) (l0A : Nat) (l1A : Nat) (l2I : Int32) (S : wPS) (Φ : (Unit → wPS → Prop)) : Prop := rX10_findNext_s F (rX10_findNext_go F F) l0A l1A l2I S Φ
set_option maxHeartbeats 4000000 in
set_option maxRecDepth 100000 in
theorem tX10_findNext_go {l : Launch} {X : wkX} {d F : Nat} {S0 : wPS} {Φ : (Unit → wPS → Prop)} (C : wkC X cX10_findNext RX10 4 wvX10_findNext) (hR : wkRm X d 0 0) (hd : 2 ≤ d) (E : wkEnd l X cX10_findNext 4 none 0 0 (fun v' S'' => ∃ v : Unit, v' = none ∧ Φ v S'' ∧ wkWF S'' ∧ wkExt S0 S'')) : ∀ k' : Nat, (∀ (l0A : Nat) (l1A : Nat) (l2I : Int32) (l3I : Int32) (S : wPS), wkWF S → wkExt S0 S → wkIs S l0A 10 → wkIs S l1A 3 → rX10_findNext_go F k' 0 l0A l1A l2I l3I S Φ → wkGo l X 4 0 0 7 S [some (.ref l0A), some (.ref l1A), some (.int l2I), some (.int l3I)] []) := by
  intro k'
  induction k' with
  | zero => exact fun l0A l1A l2I l3I S hW hE hl0A hl1A h => h.elim
  | succ k' ih =>
    · intro l0A l1A l2I l3I S hW hE hl0A hl1A h
      have h : rX10_findNext_b0 F (rX10_findNext_go F k') l0A l1A l2I l3I S Φ := by
        rw [rX10_findNext_go, if_pos (rfl : (0 : Nat) = 0)] at h
        exact h
      unfold rX10_findNext_b0 at h
      refine wk_iload_n C dX10_findNext_7 rfl rfl ?_
      refine wk_aload_n C dX10_findNext_8 rfl rfl ?_
      refine wk_get C (v := .int (gEntry_itemCount S l1A)) huX10_findNext_3 hl1A.1 (fun cy => wAt_3 cy _ hl1A.2) rfl 6 (by decide) (List.mem_of_getElem? (i := 1) rfl) rfl rfl dX10_findNext_9 ?_
      refine wk_icmp_ge C (tgt := 57) dX10_findNext_12 (by decide) (fun c1 => ?_) (fun c1 => ?_)
      · rw [if_pos c1] at h
        exact E _ _ _ _ _ (Nat.le_refl 0) (Nat.le_refl 0) dX10_findNext_57 ⟨(), rfl, h, hW, hE⟩
      · rw [if_neg c1] at h
        refine wk_aload_n C dX10_findNext_15 rfl rfl ?_
        refine wk_aload_n C dX10_findNext_16 rfl rfl ?_
        refine wk_iload_n C dX10_findNext_17 rfl rfl ?_
        refine wk_aload_n C dX10_findNext_18 rfl rfl ?_
        refine wk_iload_n C dX10_findNext_19 rfl rfl ?_
        refine wk_iconst C (v := 0) dX10_findNext_20 (by decide) ?_
        refine wk_callV C hR (As := [.int l3I, .int (0 : Int32)]) (cnt := 2) (tX3_at (l := l) hW hl1A h) rfl (wkGoodV (List.mem_of_getElem? (i := 2) rfl) (List.mem_of_getElem? (i := 3) rfl) (List.mem_of_getElem? (i := 4) rfl) (List.mem_of_getElem? (i := 5) rfl) hbX10_findNext_X3_at gdX3_at) (Nat.le_trans (by decide : 0 + 1 ≤ 2) hd) (by decide) hl1A.1 (fun cy => wAt_3 cy _ hl1A.2) rfl ⟨by decide, by decide, by decide +kernel⟩ rfl rfl (Nat.le_of_ble_eq_true rfl) (Nat.le_refl 0) (Nat.le_refl 0) dX10_findNext_21 (fun v' S3 hp => ?_)
        obtain ⟨v2, rfl, h, hWS3, hXS3⟩ := hp
        refine wk_aload_n C dX10_findNext_24 rfl rfl ?_
        refine wk_iload_n C dX10_findNext_25 rfl rfl ?_
        refine wk_iconst C (v := 1) dX10_findNext_26 (by decide) ?_
        refine wk_callV C hR (As := [.int l3I, .int (1 : Int32)]) (cnt := 2) (tX3_at (l := l) hWS3 (hXS3 _ _ hl1A) h) rfl (wkGoodV (List.mem_of_getElem? (i := 2) rfl) (List.mem_of_getElem? (i := 3) rfl) (List.mem_of_getElem? (i := 4) rfl) (List.mem_of_getElem? (i := 5) rfl) hbX10_findNext_X3_at gdX3_at) (Nat.le_trans (by decide : 0 + 1 ≤ 2) hd) (by decide) (hXS3 _ _ hl1A).1 (fun cy => wAt_3 cy _ (hXS3 _ _ hl1A).2) rfl ⟨by decide, by decide, by decide +kernel⟩ rfl rfl (Nat.le_of_ble_eq_true rfl) (Nat.le_refl 0) (Nat.le_refl 0) dX10_findNext_27 (fun v' S8 hp => ?_)
        obtain ⟨v7, rfl, h, hWS8, hXS8⟩ := hp
        refine wk_callV C hR (As := [.ref l1A, .int l2I, .int v2, .int v7]) (cnt := 4) (tX10_replaceAll (l := l) hWS8 (hXS8 _ _ (hXS3 _ _ hl0A)) (hXS8 _ _ (hXS3 _ _ hl1A)) h) rfl (wkGoodV (List.mem_of_getElem? (i := 6) rfl) (List.mem_of_getElem? (i := 7) rfl) (List.mem_of_getElem? (i := 8) rfl) (List.mem_of_getElem? (i := 9) rfl) hbX10_findNext_X10_replaceAll gdX10_replaceAll) (Nat.le_trans (by decide : 1 + 1 ≤ 2) hd) (by decide) (hXS8 _ _ (hXS3 _ _ hl0A)).1 (fun cy => wAt_10 cy _ (hXS8 _ _ (hXS3 _ _ hl0A)).2) rfl ⟨by decide, by decide, by decide +kernel⟩ rfl rfl (Nat.le_of_ble_eq_true rfl) (Nat.le_refl 0) (Nat.le_refl 0) dX10_findNext_30 (fun v' S13 hp => ?_)
        obtain ⟨v12, rfl, h, hWS13, hXS13⟩ := hp
        refine wk_aload_n C dX10_findNext_33 rfl rfl ?_
        refine wk_aload_n C dX10_findNext_34 rfl rfl ?_
        refine wk_iload_n C dX10_findNext_35 rfl rfl ?_
        refine wk_aload_n C dX10_findNext_36 rfl rfl ?_
        refine wk_iload_n C dX10_findNext_37 rfl rfl ?_
        refine wk_iconst C (v := 1) dX10_findNext_38 (by decide) ?_
        refine wk_callV C hR (As := [.int l3I, .int (1 : Int32)]) (cnt := 2) (tX3_at (l := l) hWS13 (hXS13 _ _ (hXS8 _ _ (hXS3 _ _ hl1A))) h) rfl (wkGoodV (List.mem_of_getElem? (i := 2) rfl) (List.mem_of_getElem? (i := 3) rfl) (List.mem_of_getElem? (i := 4) rfl) (List.mem_of_getElem? (i := 5) rfl) hbX10_findNext_X3_at gdX3_at) (Nat.le_trans (by decide : 0 + 1 ≤ 2) hd) (by decide) (hXS13 _ _ (hXS8 _ _ (hXS3 _ _ hl1A))).1 (fun cy => wAt_3 cy _ (hXS13 _ _ (hXS8 _ _ (hXS3 _ _ hl1A))).2) rfl ⟨by decide, by decide, by decide +kernel⟩ rfl rfl (Nat.le_of_ble_eq_true rfl) (Nat.le_refl 0) (Nat.le_refl 0) dX10_findNext_39 (fun v' S18 hp => ?_)
        obtain ⟨v17, rfl, h, hWS18, hXS18⟩ := hp
        refine wk_aload_n C dX10_findNext_42 rfl rfl ?_
        refine wk_iload_n C dX10_findNext_43 rfl rfl ?_
        refine wk_iconst C (v := 0) dX10_findNext_44 (by decide) ?_
        refine wk_callV C hR (As := [.int l3I, .int (0 : Int32)]) (cnt := 2) (tX3_at (l := l) hWS18 (hXS18 _ _ (hXS13 _ _ (hXS8 _ _ (hXS3 _ _ hl1A)))) h) rfl (wkGoodV (List.mem_of_getElem? (i := 2) rfl) (List.mem_of_getElem? (i := 3) rfl) (List.mem_of_getElem? (i := 4) rfl) (List.mem_of_getElem? (i := 5) rfl) hbX10_findNext_X3_at gdX3_at) (Nat.le_trans (by decide : 0 + 1 ≤ 2) hd) (by decide) (hXS18 _ _ (hXS13 _ _ (hXS8 _ _ (hXS3 _ _ hl1A)))).1 (fun cy => wAt_3 cy _ (hXS18 _ _ (hXS13 _ _ (hXS8 _ _ (hXS3 _ _ hl1A)))).2) rfl ⟨by decide, by decide, by decide +kernel⟩ rfl rfl (Nat.le_of_ble_eq_true rfl) (Nat.le_refl 0) (Nat.le_refl 0) dX10_findNext_45 (fun v' S23 hp => ?_)
        obtain ⟨v22, rfl, h, hWS23, hXS23⟩ := hp
        refine wk_callV C hR (As := [.ref l1A, .int l2I, .int v17, .int v22]) (cnt := 4) (tX10_replaceAll (l := l) hWS23 (hXS23 _ _ (hXS18 _ _ (hXS13 _ _ (hXS8 _ _ (hXS3 _ _ hl0A))))) (hXS23 _ _ (hXS18 _ _ (hXS13 _ _ (hXS8 _ _ (hXS3 _ _ hl1A))))) h) rfl (wkGoodV (List.mem_of_getElem? (i := 6) rfl) (List.mem_of_getElem? (i := 7) rfl) (List.mem_of_getElem? (i := 8) rfl) (List.mem_of_getElem? (i := 9) rfl) hbX10_findNext_X10_replaceAll gdX10_replaceAll) (Nat.le_trans (by decide : 1 + 1 ≤ 2) hd) (by decide) (hXS23 _ _ (hXS18 _ _ (hXS13 _ _ (hXS8 _ _ (hXS3 _ _ hl0A))))).1 (fun cy => wAt_10 cy _ (hXS23 _ _ (hXS18 _ _ (hXS13 _ _ (hXS8 _ _ (hXS3 _ _ hl0A))))).2) rfl ⟨by decide, by decide, by decide +kernel⟩ rfl rfl (Nat.le_of_ble_eq_true rfl) (Nat.le_refl 0) (Nat.le_refl 0) dX10_findNext_48 (fun v' S28 hp => ?_)
        obtain ⟨v27, rfl, h, hWS28, hXS28⟩ := hp
        obtain ⟨x32, ex32, h⟩ := wkLt_some h
        refine wk_iinc C (lv' := [some (.ref l0A), some (.ref l1A), some (.int l2I), some (.int x32)]) dX10_findNext_51 rfl (by rw [ex32]; rfl) (by decide) rfl ?_
        refine wk_goto C (tgt := 7) dX10_findNext_54 (by decide) ?_
        exact wk_forget (lv' := [some (.ref l0A), some (.ref l1A), some (.int l2I), some (.int x32)]) (wkLs.le ⟨rfl, rfl, rfl, rfl, trivial⟩) (ih _ _ _ _ _ hWS28 (wkExt.tr (wkExt.tr (wkExt.tr (wkExt.tr (wkExt.tr (wkExt.tr hE hXS3) hXS8) hXS13) hXS18) hXS23) hXS28) (hXS28 _ _ (hXS23 _ _ (hXS18 _ _ (hXS13 _ _ (hXS8 _ _ (hXS3 _ _ hl0A)))))) (hXS28 _ _ (hXS23 _ _ (hXS18 _ _ (hXS13 _ _ (hXS8 _ _ (hXS3 _ _ hl1A)))))) h)
set_option maxHeartbeats 4000000 in
set_option maxRecDepth 100000 in
theorem tX10_findNext {l : Launch} {g : wkG} {F : Nat}  {S : wPS} {l0A : Nat} {l1A : Nat} {l2I : Int32} {Φ : (Unit → wPS → Prop)} (hW : wkWF S) (hl0A : wkIs S l0A 10) (hl1A : wkIs S l1A 3) (h : rX10_findNext F l0A l1A l2I S Φ) : wkMet l g yX10_findNext wvX10_findNext 2 0 0 [.ref l0A, .ref l1A, .int l2I] S (fun v' S'' => ∃ v : Unit, v' = none ∧ Φ v S'' ∧ wkWF S'' ∧ wkExt S S'') := by
  refine wkMet_of (ret := none) (by decide) rfl (Nat.le_of_ble_eq_true rfl) (fun X hg C hR E => ?_)
  subst hg
  have hE : wkExt S S := wkExt.rf
  have hd : 2 ≤ 2 := Nat.le_refl _
  show wkGo l X 4 0 0 0 S [some (.ref l0A), some (.ref l1A), some (.int l2I), none] []
  have ih := tX10_findNext_go (F := F) C hR hd E F
  have h : rX10_findNext_s F (rX10_findNext_go F F) l0A l1A l2I S Φ := h
  unfold rX10_findNext_s at h
  refine wk_aload_n C dX10_findNext_0 rfl rfl ?_
  refine wk_iconst C (v := 0) dX10_findNext_1 (by decide) ?_
  obtain ⟨S33, eS33, h⟩ := wkLt_some h
  refine wk_put C (S' := S33) huX10_findNext_10 hl0A.1 (fun cy => wAt_10 cy _ hl0A.2) rfl 9 (by decide) (List.mem_of_getElem? (i := 10) rfl) rfl tyX10_ok nmX10 rfl (ty := .int) rfl rfl rfl (by show 9 < 12; decide) (fun cy b => by rw [eS33]; exact wSt_10_9 cy _ hl0A.2 _ b) (by rw [eS33]) dX10_findNext_2 ?_
  have hWS33 : wkWF S33 := by rw [eS33]; exact hW
  have hXS33 : wkExt S S33 := by rw [eS33]; exact wkExt.rf
  refine wk_iconst C (v := 1) dX10_findNext_5 (by decide) ?_
  refine wk_istore_n C (lv' := [some (.ref l0A), some (.ref l1A), some (.int l2I), some (.int (1 : Int32))]) dX10_findNext_6 rfl (by decide) rfl ?_
  exact wk_forget (lv' := [some (.ref l0A), some (.ref l1A), some (.int l2I), some (.int (1 : Int32))]) (wkLs.le ⟨rfl, rfl, rfl, rfl, trivial⟩) (ih _ _ _ _ _ hWS33 (wkExt.tr hE hXS33) (hXS33 _ _ hl0A) (hXS33 _ _ hl1A) h)
def wvX10_writeSteps : List Cond := .code yX10_writeSteps cX10_writeSteps 7 none :: (([.methodLink RX10 184 yX10_findNext, .instanceMethod yX10_findNext, .selects RX10 yX10_findNext yX10_findNext, .initialized RX10, .fieldLink RX10 187 "Witnessworks$Words" "nextCount" "I", .fieldLink RX10 55 "Witnessworks$Entry" "row" "LWitnessworks$Row;", .methodLink RX10 115 yX9_add, .instanceMethod yX9_add, .selects RX9 yX9_add yX9_add, .initialized RX9, .fieldLink RX10 35 "Witnessworks$Words" "steps" "[I", .fieldLink RX10 38 "Witnessworks$Words" "next" "[I", .methodLink RX10 78 Lib.Math.min.name, .static Lib.Math.min.name, .initialized "java/lang/Math", .code Lib.Math.min.name Lib.Math.min.code 2 (some .int)] : List Cond) ++ ((wsX100 ++ (wsX30)) ++ (wvX10_findNext ++ (wvX9_add))))
theorem huX10_writeSteps_10 : ∀ w ∈ u_ws RX10 TX10 12, w ∈ wvX10_writeSteps := fun w h => List.mem_cons_of_mem _ (List.mem_append_right _ (List.mem_append_left _ (List.mem_append_left _ h)))
theorem huX10_writeSteps_3 : ∀ w ∈ u_ws RX3 TX3 17, w ∈ wvX10_writeSteps := fun w h => List.mem_cons_of_mem _ (List.mem_append_right _ (List.mem_append_left _ (List.mem_append_right _ h)))
theorem hbX10_writeSteps_X10_findNext : ∀ w ∈ wvX10_findNext, w ∈ wvX10_writeSteps := fun w h => List.mem_cons_of_mem _ (List.mem_append_right _ (List.mem_append_right _ (List.mem_append_left _ h)))
theorem hbX10_writeSteps_X9_add : ∀ w ∈ wvX9_add, w ∈ wvX10_writeSteps := fun w h => List.mem_cons_of_mem _ (List.mem_append_right _ (List.mem_append_right _ (List.mem_append_right _ h)))
theorem gdX10_writeSteps : ∀ w ∈ wvX10_writeSteps, wkGd w := wkGdC rfl (wkGdA (wkGdL (by decide +kernel)) (wkGdA (wkGdA gdX10 gdX3) (wkGdA gdX10_findNext gdX9_add)))
def rX10_writeSteps_b0 (F : Nat) (k n : Nat) (rec : Nat → Nat → Nat → Nat → Nat → Int32 → Int32 → Int32 → Int32 → wPS → (Unit → wPS → Prop) → Prop) (c s : Nat) (l0A : Nat) (l1A : Nat) (l3I : Int32) (l4I : Int32) (S : wPS) (Φ : (Unit → wPS → Prop)) : Prop :=
  if l4I ≤ 0 then (Φ () S) else (rX10_findNext F l0A l1A l3I S fun v2 S3 => rec 1 c s l0A l1A 0 l4I (256 : Int32) (0 : Int32) S3 Φ)
def rX10_writeSteps_b1 (F : Nat) (k n : Nat) (rec : Nat → Nat → Nat → Nat → Nat → Int32 → Int32 → Int32 → Int32 → wPS → (Unit → wPS → Prop) → Prop) (c s : Nat) (l0A : Nat) (l1A : Nat) (l4I : Int32) (l5I : Int32) (l6I : Int32) (S : wPS) (Φ : (Unit → wPS → Prop)) : Prop :=
  if (gWords_nextCount S l0A) ≤ l6I then (∃ k11 n12 : Nat, c + k11 ≤ k ∧ s + n12 ≤ n ∧ rX9_add F k11 n12 (wkAd (gEntry_row S l1A)) l5I S fun v8 S9 => wkLt (l4I + (-1 : Int32)) fun x13 => rec 0 (c + k11) (s + n12) l0A l1A l5I x13 0 0 S9 Φ) else (¬ (l6I < 0 ∨ S.len (wkAd (gWords_next S l0A)) ≤ (l6I).toNatClampNeg) ∧ ¬ ((S.rI (wkAd (gWords_next S l0A)) (l6I).toNatClampNeg) < 0 ∨ S.len (wkAd (gWords_steps S l0A)) ≤ ((S.rI (wkAd (gWords_next S l0A)) (l6I).toNatClampNeg)).toNatClampNeg) ∧ if (S.rI (wkAd (gWords_steps S l0A)) ((S.rI (wkAd (gWords_next S l0A)) (l6I).toNatClampNeg)).toNatClampNeg) = (l4I - (1 : Int32)) then (¬ (l6I < 0 ∨ S.len (wkAd (gWords_next S l0A)) ≤ (l6I).toNatClampNeg) ∧ wkLt ((if (S.rI (wkAd (gWords_next S l0A)) (l6I).toNatClampNeg) < l5I then (S.rI (wkAd (gWords_next S l0A)) (l6I).toNatClampNeg) else l5I)) fun x19 => wkLt (l6I + (1 : Int32)) fun x20 => rec 1 c s l0A l1A 0 l4I x19 x20 S Φ) else (wkLt (l6I + (1 : Int32)) fun x17 => rec 1 c s l0A l1A 0 l4I l5I x17 S Φ))
def rX10_writeSteps_go (F : Nat) (k n : Nat) : Nat → Nat → Nat → Nat → Nat → Nat → Int32 → Int32 → Int32 → Int32 → wPS → (Unit → wPS → Prop) → Prop
  | 0, _, _, _, _, _, _, _, _, _, _, _ => False
  | k' + 1, lab, c, s, l0A, l1A, l3I, l4I, l5I, l6I, S, Φ => if lab = 0 then rX10_writeSteps_b0 F k n (rX10_writeSteps_go F k n k') c s l0A l1A l3I l4I S Φ else if lab = 1 then rX10_writeSteps_b1 F k n (rX10_writeSteps_go F k n k') c s l0A l1A l4I l5I l6I S Φ else False
def rX10_writeSteps_s (F : Nat) (k n : Nat) (rec : Nat → Nat → Nat → Nat → Nat → Int32 → Int32 → Int32 → Int32 → wPS → (Unit → wPS → Prop) → Prop) (l0A : Nat) (l1A : Nat) (l2I : Int32) (S : wPS) (Φ : (Unit → wPS → Prop)) : Prop :=
  ∃ k24 n25 : Nat, 0 + k24 ≤ k ∧ 0 + n25 ≤ n ∧ rX9_add F k24 n25 (wkAd (gEntry_row S l1A)) l2I S fun v21 S22 => ¬ (l2I < 0 ∨ S22.len (wkAd (gWords_steps S22 l0A)) ≤ (l2I).toNatClampNeg) ∧ wkLt ((S22.rI (wkAd (gWords_steps S22 l0A)) (l2I).toNatClampNeg)) fun x27 => rec 0 (0 + k24) (0 + n25) l0A l1A l2I x27 0 0 S22 Φ
def rX10_writeSteps (F : Nat) (k n : Nat) (l0A : Nat) (l1A : Nat) (l2I : Int32) (S : wPS) (Φ : (Unit → wPS → Prop)) : Prop := rX10_writeSteps_s F k n (rX10_writeSteps_go F k n F) l0A l1A l2I S Φ
set_option maxHeartbeats 4000000 in
set_option maxRecDepth 100000 in
theorem tX10_writeSteps_go {k n : Nat} {l : Launch} {X : wkX} {d F : Nat} {S0 : wPS} {Φ : (Unit → wPS → Prop)} (C : wkC X cX10_writeSteps RX10 7 wvX10_writeSteps) (hR : wkRm X d k n) (hd : 3 ≤ d) (E : wkEnd l X cX10_writeSteps 7 none k n (fun v' S'' => ∃ v : Unit, v' = none ∧ Φ v S'' ∧ wkWF S'' ∧ wkExt S0 S'')) : ∀ k' : Nat, (∀ (c s : Nat), c ≤ k → s ≤ n → ∀ (l0A : Nat) (l1A : Nat) (l3I : Int32) (l4I : Int32) (S : wPS), wkWF S → wkExt S0 S → wkIs S l0A 10 → wkIs S l1A 3 → rX10_writeSteps_go F k n k' 0 c s l0A l1A l3I l4I 0 0 S Φ → wkGo l X 7 c s 18 S [some (.ref l0A), some (.ref l1A), none, some (.int l3I), some (.int l4I), none, none] []) ∧ (∀ (c s : Nat), c ≤ k → s ≤ n → ∀ (l0A : Nat) (l1A : Nat) (l4I : Int32) (l5I : Int32) (l6I : Int32) (S : wPS), wkWF S → wkExt S0 S → wkIs S l0A 10 → wkIs S l1A 3 → rX10_writeSteps_go F k n k' 1 c s l0A l1A 0 l4I l5I l6I S Φ → wkGo l X 7 c s 37 S [some (.ref l0A), some (.ref l1A), none, none, some (.int l4I), some (.int l5I), some (.int l6I)] []) := by
  intro k'
  induction k' with
  | zero => exact ⟨fun c s hc hs l0A l1A l3I l4I S hW hE hl0A hl1A h => h.elim, fun c s hc hs l0A l1A l4I l5I l6I S hW hE hl0A hl1A h => h.elim⟩
  | succ k' ih =>
    refine ⟨?_, ?_⟩
    · intro c s hc hs l0A l1A l3I l4I S hW hE hl0A hl1A h
      have h : rX10_writeSteps_b0 F k n (rX10_writeSteps_go F k n k') c s l0A l1A l3I l4I S Φ := by
        rw [rX10_writeSteps_go, if_pos (rfl : (0 : Nat) = 0)] at h
        exact h
      unfold rX10_writeSteps_b0 at h
      refine wk_iload C dX10_writeSteps_18 rfl ?_
      refine wk_if_le C (tgt := 102) dX10_writeSteps_20 (by decide) (fun c1 => ?_) (fun c1 => ?_)
      · rw [if_pos c1] at h
        exact E _ _ _ _ _ hc hs dX10_writeSteps_102 ⟨(), rfl, h, hW, hE⟩
      · rw [if_neg c1] at h
        refine wk_aload_n C dX10_writeSteps_23 rfl rfl ?_
        refine wk_aload_n C dX10_writeSteps_24 rfl rfl ?_
        refine wk_iload_n C dX10_writeSteps_25 rfl rfl ?_
        refine wk_callV C hR (As := [.ref l1A, .int l3I]) (cnt := 2) (tX10_findNext (l := l) hW hl0A hl1A h) rfl (wkGoodV (List.mem_of_getElem? (i := 1) rfl) (List.mem_of_getElem? (i := 2) rfl) (List.mem_of_getElem? (i := 3) rfl) (List.mem_of_getElem? (i := 4) rfl) hbX10_writeSteps_X10_findNext gdX10_findNext) (Nat.le_trans (by decide : 2 + 1 ≤ 3) hd) (by decide) hl0A.1 (fun cy => wAt_10 cy _ hl0A.2) rfl ⟨by decide, by decide, by decide +kernel⟩ rfl rfl (Nat.le_of_ble_eq_true rfl) hc hs dX10_writeSteps_26 (fun v' S3 hp => ?_)
        obtain ⟨v2, rfl, h, hWS3, hXS3⟩ := hp
        refine wk_sipush C (v := 256) dX10_writeSteps_29 (by decide) ?_
        refine wk_istore C (lv' := [some (.ref l0A), some (.ref l1A), none, some (.int l3I), some (.int l4I), some (.int (256 : Int32)), none]) dX10_writeSteps_32 (by decide) rfl ?_
        refine wk_iconst C (v := 0) dX10_writeSteps_34 (by decide) ?_
        refine wk_istore C (lv' := [some (.ref l0A), some (.ref l1A), none, some (.int l3I), some (.int l4I), some (.int (256 : Int32)), some (.int (0 : Int32))]) dX10_writeSteps_35 (by decide) rfl ?_
        exact wk_forget (lv' := [some (.ref l0A), some (.ref l1A), none, none, some (.int l4I), some (.int (256 : Int32)), some (.int (0 : Int32))]) (wkLs.le ⟨rfl, rfl, rfl, rfl, rfl, trivial⟩) (ih.2 _ _ hc hs _ _ _ _ _ _ hWS3 (wkExt.tr hE hXS3) (hXS3 _ _ hl0A) (hXS3 _ _ hl1A) h)
    · intro c s hc hs l0A l1A l4I l5I l6I S hW hE hl0A hl1A h
      have h : rX10_writeSteps_b1 F k n (rX10_writeSteps_go F k n k') c s l0A l1A l4I l5I l6I S Φ := by
        rw [rX10_writeSteps_go, if_neg (show ¬ (1 : Nat) = 0 by decide), if_pos (rfl : (1 : Nat) = 1)] at h
        exact h
      unfold rX10_writeSteps_b1 at h
      refine wk_iload C dX10_writeSteps_37 rfl ?_
      refine wk_aload_n C dX10_writeSteps_39 rfl rfl ?_
      refine wk_get C (v := .int (gWords_nextCount S l0A)) huX10_writeSteps_10 hl0A.1 (fun cy => wAt_10 cy _ hl0A.2) rfl 9 (by decide) (List.mem_of_getElem? (i := 5) rfl) rfl rfl dX10_writeSteps_40 ?_
      refine wk_icmp_ge C (tgt := 85) dX10_writeSteps_43 (by decide) (fun c7 => ?_) (fun c7 => ?_)
      · rw [if_pos c7] at h
        refine wk_iload C dX10_writeSteps_85 rfl ?_
        refine wk_istore_n C (lv' := [some (.ref l0A), some (.ref l1A), none, some (.int l5I), some (.int l4I), some (.int l5I), some (.int l6I)]) dX10_writeSteps_87 rfl (by decide) rfl ?_
        refine wk_aload_n C dX10_writeSteps_88 rfl rfl ?_
        refine wk_get C huX10_writeSteps_3 hl1A.1 (fun cy => wAt_3 cy _ hl1A.2) rfl 13 (by decide) (List.mem_of_getElem? (i := 6) rfl) rfl (congrArg some (congrArg va_rf (wf_Entry_row hW hl1A).1)) dX10_writeSteps_89 ?_
        refine wk_iload_n C dX10_writeSteps_92 rfl rfl ?_
        obtain ⟨k11, n12, hk11, hn12, h⟩ := h
        refine wk_callV C hR (As := [.int l5I]) (cnt := 1) (tX9_add (l := l) hW (wf_Entry_row hW hl1A).2 h) rfl (wkGoodV (List.mem_of_getElem? (i := 7) rfl) (List.mem_of_getElem? (i := 8) rfl) (List.mem_of_getElem? (i := 9) rfl) (List.mem_of_getElem? (i := 10) rfl) hbX10_writeSteps_X9_add gdX9_add) (Nat.le_trans (by decide : 2 + 1 ≤ 3) hd) (by decide) (wf_Entry_row hW hl1A).2.1 (fun cy => wAt_9 cy _ (wf_Entry_row hW hl1A).2.2) rfl ⟨by decide, by decide, by decide +kernel⟩ rfl rfl (Nat.le_of_ble_eq_true rfl) hk11 hn12 dX10_writeSteps_93 (fun v' S9 hp => ?_)
        obtain ⟨v8, rfl, h, hWS9, hXS9⟩ := hp
        obtain ⟨x13, ex13, h⟩ := wkLt_some h
        refine wk_iinc C (lv' := [some (.ref l0A), some (.ref l1A), none, some (.int l5I), some (.int x13), some (.int l5I), some (.int l6I)]) dX10_writeSteps_96 rfl (by rw [ex13]; rfl) (by decide) rfl ?_
        refine wk_goto C (tgt := 18) dX10_writeSteps_99 (by decide) ?_
        exact wk_forget (lv' := [some (.ref l0A), some (.ref l1A), none, some (.int l5I), some (.int x13), none, none]) (wkLs.le ⟨rfl, rfl, rfl, rfl, trivial⟩) (ih.1 _ _ hk11 hn12 _ _ _ _ _ hWS9 (wkExt.tr hE hXS9) (hXS9 _ _ hl0A) (hXS9 _ _ hl1A) h)
      · rw [if_neg c7] at h
        refine wk_aload_n C dX10_writeSteps_46 rfl rfl ?_
        refine wk_get C huX10_writeSteps_10 hl0A.1 (fun cy => wAt_10 cy _ hl0A.2) rfl 7 (by decide) (List.mem_of_getElem? (i := 11) rfl) rfl (congrArg some (congrArg va_rf (wf_Words_steps hW hl0A).1)) dX10_writeSteps_47 ?_
        refine wk_aload_n C dX10_writeSteps_50 rfl rfl ?_
        refine wk_get C huX10_writeSteps_10 hl0A.1 (fun cy => wAt_10 cy _ hl0A.2) rfl 8 (by decide) (List.mem_of_getElem? (i := 12) rfl) rfl (congrArg some (congrArg va_rf (wf_Words_next hW hl0A).1)) dX10_writeSteps_51 ?_
        refine wk_iload C dX10_writeSteps_54 rfl ?_
        obtain ⟨i14, h⟩ := h
        refine wk_iald C (wf_Words_next hW hl0A).2.1 (wf_Words_next hW hl0A).2.2 i14 rfl dX10_writeSteps_56 ?_
        obtain ⟨i15, h⟩ := h
        refine wk_iald C (wf_Words_steps hW hl0A).2.1 (wf_Words_steps hW hl0A).2.2 i15 rfl dX10_writeSteps_57 ?_
        refine wk_iload C dX10_writeSteps_58 rfl ?_
        refine wk_iconst C (v := 1) dX10_writeSteps_60 (by decide) ?_
        refine wk_isub C dX10_writeSteps_61 rfl ?_
        refine wk_icmp_ne C (tgt := 79) dX10_writeSteps_62 (by decide) (fun c16 => ?_) (fun c16 => ?_)
        · rw [if_neg c16] at h
          obtain ⟨x17, ex17, h⟩ := wkLt_some h
          refine wk_iinc C (lv' := [some (.ref l0A), some (.ref l1A), none, none, some (.int l4I), some (.int l5I), some (.int x17)]) dX10_writeSteps_79 rfl (by rw [ex17]; rfl) (by decide) rfl ?_
          refine wk_goto C (tgt := 37) dX10_writeSteps_82 (by decide) ?_
          exact wk_forget (lv' := [some (.ref l0A), some (.ref l1A), none, none, some (.int l4I), some (.int l5I), some (.int x17)]) (wkLs.le ⟨rfl, rfl, rfl, rfl, rfl, trivial⟩) (ih.2 _ _ hc hs _ _ _ _ _ _ hW hE hl0A hl1A h)
        · rw [if_pos c16] at h
          refine wk_iload C dX10_writeSteps_65 rfl ?_
          refine wk_aload_n C dX10_writeSteps_67 rfl rfl ?_
          refine wk_get C huX10_writeSteps_10 hl0A.1 (fun cy => wAt_10 cy _ hl0A.2) rfl 8 (by decide) (List.mem_of_getElem? (i := 12) rfl) rfl (congrArg some (congrArg va_rf (wf_Words_next hW hl0A).1)) dX10_writeSteps_68 ?_
          refine wk_iload C dX10_writeSteps_71 rfl ?_
          obtain ⟨i18, h⟩ := h
          refine wk_iald C (wf_Words_next hW hl0A).2.1 (wf_Words_next hW hl0A).2.2 i18 rfl dX10_writeSteps_73 ?_
          refine wk_mmin C hR (List.mem_of_getElem? (i := 13) rfl) (List.mem_of_getElem? (i := 14) rfl) (List.mem_of_getElem? (i := 15) rfl) (List.mem_of_getElem? (i := 16) rfl) (Nat.le_trans (by decide) hd) hc hs (Nat.le_of_ble_eq_true rfl) rfl dX10_writeSteps_74 ?_
          obtain ⟨x19, ex19, h⟩ := wkLt_some h
          refine wk_topi ex19 ?_
          refine wk_istore C (lv' := [some (.ref l0A), some (.ref l1A), none, none, some (.int l4I), some (.int x19), some (.int l6I)]) dX10_writeSteps_77 (by decide) rfl ?_
          obtain ⟨x20, ex20, h⟩ := wkLt_some h
          refine wk_iinc C (lv' := [some (.ref l0A), some (.ref l1A), none, none, some (.int l4I), some (.int x19), some (.int x20)]) dX10_writeSteps_79 rfl (by rw [ex20]; rfl) (by decide) rfl ?_
          refine wk_goto C (tgt := 37) dX10_writeSteps_82 (by decide) ?_
          exact wk_forget (lv' := [some (.ref l0A), some (.ref l1A), none, none, some (.int l4I), some (.int x19), some (.int x20)]) (wkLs.le ⟨rfl, rfl, rfl, rfl, rfl, trivial⟩) (ih.2 _ _ hc hs _ _ _ _ _ _ hW hE hl0A hl1A h)
set_option maxHeartbeats 4000000 in
set_option maxRecDepth 100000 in
theorem tX10_writeSteps {l : Launch} {g : wkG} {F : Nat} {k n : Nat}  {S : wPS} {l0A : Nat} {l1A : Nat} {l2I : Int32} {Φ : (Unit → wPS → Prop)} (hW : wkWF S) (hl0A : wkIs S l0A 10) (hl1A : wkIs S l1A 3) (h : rX10_writeSteps F k n l0A l1A l2I S Φ) : wkMet l g yX10_writeSteps wvX10_writeSteps 3 k n [.ref l0A, .ref l1A, .int l2I] S (fun v' S'' => ∃ v : Unit, v' = none ∧ Φ v S'' ∧ wkWF S'' ∧ wkExt S S'') := by
  refine wkMet_of (ret := none) (by decide) rfl (Nat.le_of_ble_eq_true rfl) (fun X hg C hR E => ?_)
  subst hg
  have hE : wkExt S S := wkExt.rf
  have hd : 3 ≤ 3 := Nat.le_refl _
  show wkGo l X 7 0 0 0 S [some (.ref l0A), some (.ref l1A), some (.int l2I), none, none, none, none] []
  have ih := tX10_writeSteps_go (F := F) C hR hd E F
  have h : rX10_writeSteps_s F k n (rX10_writeSteps_go F k n F) l0A l1A l2I S Φ := h
  unfold rX10_writeSteps_s at h
  refine wk_iload_n C dX10_writeSteps_0 rfl rfl ?_
  refine wk_istore_n C (lv' := [some (.ref l0A), some (.ref l1A), some (.int l2I), some (.int l2I), none, none, none]) dX10_writeSteps_1 rfl (by decide) rfl ?_
  refine wk_aload_n C dX10_writeSteps_2 rfl rfl ?_
  refine wk_get C huX10_writeSteps_3 hl1A.1 (fun cy => wAt_3 cy _ hl1A.2) rfl 13 (by decide) (List.mem_of_getElem? (i := 6) rfl) rfl (congrArg some (congrArg va_rf (wf_Entry_row hW hl1A).1)) dX10_writeSteps_3 ?_
  refine wk_iload_n C dX10_writeSteps_6 rfl rfl ?_
  obtain ⟨k24, n25, hk24, hn25, h⟩ := h
  refine wk_callV C hR (As := [.int l2I]) (cnt := 1) (tX9_add (l := l) hW (wf_Entry_row hW hl1A).2 h) rfl (wkGoodV (List.mem_of_getElem? (i := 7) rfl) (List.mem_of_getElem? (i := 8) rfl) (List.mem_of_getElem? (i := 9) rfl) (List.mem_of_getElem? (i := 10) rfl) hbX10_writeSteps_X9_add gdX9_add) (Nat.le_trans (by decide : 2 + 1 ≤ 3) hd) (by decide) (wf_Entry_row hW hl1A).2.1 (fun cy => wAt_9 cy _ (wf_Entry_row hW hl1A).2.2) rfl ⟨by decide, by decide, by decide +kernel⟩ rfl rfl (Nat.le_of_ble_eq_true rfl) hk24 hn25 dX10_writeSteps_7 (fun v' S22 hp => ?_)
  obtain ⟨v21, rfl, h, hWS22, hXS22⟩ := hp
  refine wk_aload_n C dX10_writeSteps_10 rfl rfl ?_
  refine wk_get C huX10_writeSteps_10 (hXS22 _ _ hl0A).1 (fun cy => wAt_10 cy _ (hXS22 _ _ hl0A).2) rfl 7 (by decide) (List.mem_of_getElem? (i := 11) rfl) rfl (congrArg some (congrArg va_rf (wf_Words_steps hWS22 (hXS22 _ _ hl0A)).1)) dX10_writeSteps_11 ?_
  refine wk_iload_n C dX10_writeSteps_14 rfl rfl ?_
  obtain ⟨i26, h⟩ := h
  refine wk_iald C (wf_Words_steps hWS22 (hXS22 _ _ hl0A)).2.1 (wf_Words_steps hWS22 (hXS22 _ _ hl0A)).2.2 i26 rfl dX10_writeSteps_15 ?_
  obtain ⟨x27, ex27, h⟩ := wkLt_some h
  refine wk_topi ex27 ?_
  refine wk_istore C (lv' := [some (.ref l0A), some (.ref l1A), some (.int l2I), some (.int l2I), some (.int x27), none, none]) dX10_writeSteps_16 (by decide) rfl ?_
  exact wk_forget (lv' := [some (.ref l0A), some (.ref l1A), none, some (.int l2I), some (.int x27), none, none]) (wkLs.le ⟨rfl, rfl, rfl, rfl, trivial⟩) (ih.1 _ _ hk24 hn25 _ _ _ _ _ hWS22 (wkExt.tr hE hXS22) (hXS22 _ _ hl0A) (hXS22 _ _ hl1A) h)
def wvX10_isNext : List Cond := .code yX10_isNext cX10_isNext 5 (some .boolean) :: (([.fieldLink RX10 187 "Witnessworks$Words" "nextCount" "I", .fieldLink RX10 38 "Witnessworks$Words" "next" "[I", .methodLink RX10 184 yX10_findNext, .instanceMethod yX10_findNext, .selects RX10 yX10_findNext yX10_findNext, .initialized RX10] : List Cond) ++ ((wsX100) ++ (wvX10_findNext)))
theorem huX10_isNext_10 : ∀ w ∈ u_ws RX10 TX10 12, w ∈ wvX10_isNext := fun w h => List.mem_cons_of_mem _ (List.mem_append_right _ (List.mem_append_left _ h))
theorem hbX10_isNext_X10_findNext : ∀ w ∈ wvX10_findNext, w ∈ wvX10_isNext := fun w h => List.mem_cons_of_mem _ (List.mem_append_right _ (List.mem_append_right _ h))
theorem gdX10_isNext : ∀ w ∈ wvX10_isNext, wkGd w := wkGdC rfl (wkGdA (wkGdL (by decide +kernel)) (wkGdA gdX10 gdX10_findNext))
def rX10_isNext_b0 (F : Nat) (rec : Nat → Nat → Int32 → Int32 → wPS → (Int32 → wPS → Prop) → Prop) (l0A : Nat) (l3I : Int32) (l4I : Int32) (S : wPS) (Φ : (Int32 → wPS → Prop)) : Prop :=
  if (gWords_nextCount S l0A) ≤ l4I then (Φ (0 : Int32) S) else (¬ (l4I < 0 ∨ S.len (wkAd (gWords_next S l0A)) ≤ (l4I).toNatClampNeg) ∧ if (S.rI (wkAd (gWords_next S l0A)) (l4I).toNatClampNeg) = l3I then (Φ (1 : Int32) S) else (wkLt (l4I + (1 : Int32)) fun x4 => rec 0 l0A l3I x4 S Φ))
def rX10_isNext_go (F : Nat) : Nat → Nat → Nat → Int32 → Int32 → wPS → (Int32 → wPS → Prop) → Prop
  | 0, _, _, _, _, _, _ => False
  | k' + 1, lab, l0A, l3I, l4I, S, Φ => if lab = 0 then rX10_isNext_b0 F (rX10_isNext_go F k') l0A l3I l4I S Φ else False
def rX10_isNext_s (F : Nat) (rec : Nat → Nat → Int32 → Int32 → wPS → (Int32 → wPS → Prop) → Prop) (l0A : Nat) (l1A : Nat) (l2I : Int32) (l3I : Int32) (S : wPS) (Φ : (Int32 → wPS → Prop)) : Prop :=
  rX10_findNext F l0A l1A l2I S fun v5 S6 => rec 0 l0A l3I (0 : Int32) S6 Φ
def rX10_isNext (F : Nat) (l0A : Nat) (l1A : Nat) (l2I : Int32) (l3I : Int32) (S : wPS) (Φ : (Int32 → wPS → Prop)) : Prop := rX10_isNext_s F (rX10_isNext_go F F) l0A l1A l2I l3I S Φ
set_option maxHeartbeats 4000000 in
set_option maxRecDepth 100000 in
theorem tX10_isNext_go {l : Launch} {X : wkX} {d F : Nat} {S0 : wPS} {Φ : (Int32 → wPS → Prop)} (C : wkC X cX10_isNext RX10 5 wvX10_isNext) (hR : wkRm X d 0 0) (hd : 3 ≤ d) (E : wkEnd l X cX10_isNext 5 (some .boolean) 0 0 (fun v' S'' => ∃ v : Int32, v' = some (.int v) ∧ Φ v S'' ∧ wkWF S'' ∧ wkExt S0 S'')) : ∀ k' : Nat, (∀ (l0A : Nat) (l3I : Int32) (l4I : Int32) (S : wPS), wkWF S → wkExt S0 S → wkIs S l0A 10 → rX10_isNext_go F k' 0 l0A l3I l4I S Φ → wkGo l X 5 0 0 9 S [some (.ref l0A), none, none, some (.int l3I), some (.int l4I)] []) := by
  intro k'
  induction k' with
  | zero => exact fun l0A l3I l4I S hW hE hl0A h => h.elim
  | succ k' ih =>
    · intro l0A l3I l4I S hW hE hl0A h
      have h : rX10_isNext_b0 F (rX10_isNext_go F k') l0A l3I l4I S Φ := by
        rw [rX10_isNext_go, if_pos (rfl : (0 : Nat) = 0)] at h
        exact h
      unfold rX10_isNext_b0 at h
      refine wk_iload C dX10_isNext_9 rfl ?_
      refine wk_aload_n C dX10_isNext_11 rfl rfl ?_
      refine wk_get C (v := .int (gWords_nextCount S l0A)) huX10_isNext_10 hl0A.1 (fun cy => wAt_10 cy _ hl0A.2) rfl 9 (by decide) (List.mem_of_getElem? (i := 1) rfl) rfl rfl dX10_isNext_12 ?_
      refine wk_icmp_ge C (tgt := 37) dX10_isNext_15 (by decide) (fun c1 => ?_) (fun c1 => ?_)
      · rw [if_pos c1] at h
        refine wk_iconst C (v := 0) dX10_isNext_37 (by decide) ?_
        exact E _ _ _ _ _ _ (Nat.le_refl 0) (Nat.le_refl 0) dX10_isNext_38 rfl ⟨(0 : Int32), rfl, h, hW, hE⟩
      · rw [if_neg c1] at h
        refine wk_aload_n C dX10_isNext_18 rfl rfl ?_
        refine wk_get C huX10_isNext_10 hl0A.1 (fun cy => wAt_10 cy _ hl0A.2) rfl 8 (by decide) (List.mem_of_getElem? (i := 2) rfl) rfl (congrArg some (congrArg va_rf (wf_Words_next hW hl0A).1)) dX10_isNext_19 ?_
        refine wk_iload C dX10_isNext_22 rfl ?_
        obtain ⟨i2, h⟩ := h
        refine wk_iald C (wf_Words_next hW hl0A).2.1 (wf_Words_next hW hl0A).2.2 i2 rfl dX10_isNext_24 ?_
        refine wk_iload_n C dX10_isNext_25 rfl rfl ?_
        refine wk_icmp_ne C (tgt := 31) dX10_isNext_26 (by decide) (fun c3 => ?_) (fun c3 => ?_)
        · rw [if_neg c3] at h
          obtain ⟨x4, ex4, h⟩ := wkLt_some h
          refine wk_iinc C (lv' := [some (.ref l0A), none, none, some (.int l3I), some (.int x4)]) dX10_isNext_31 rfl (by rw [ex4]; rfl) (by decide) rfl ?_
          refine wk_goto C (tgt := 9) dX10_isNext_34 (by decide) ?_
          exact wk_forget (lv' := [some (.ref l0A), none, none, some (.int l3I), some (.int x4)]) (wkLs.le ⟨rfl, rfl, rfl, trivial⟩) (ih _ _ _ _ hW hE hl0A h)
        · rw [if_pos c3] at h
          refine wk_iconst C (v := 1) dX10_isNext_29 (by decide) ?_
          exact E _ _ _ _ _ _ (Nat.le_refl 0) (Nat.le_refl 0) dX10_isNext_30 rfl ⟨(1 : Int32), rfl, h, hW, hE⟩
set_option maxHeartbeats 4000000 in
set_option maxRecDepth 100000 in
theorem tX10_isNext {l : Launch} {g : wkG} {F : Nat}  {S : wPS} {l0A : Nat} {l1A : Nat} {l2I : Int32} {l3I : Int32} {Φ : (Int32 → wPS → Prop)} (hW : wkWF S) (hl0A : wkIs S l0A 10) (hl1A : wkIs S l1A 3) (h : rX10_isNext F l0A l1A l2I l3I S Φ) : wkMet l g yX10_isNext wvX10_isNext 3 0 0 [.ref l0A, .ref l1A, .int l2I, .int l3I] S (fun v' S'' => ∃ v : Int32, v' = some (.int v) ∧ Φ v S'' ∧ wkWF S'' ∧ wkExt S S'') := by
  refine wkMet_of (ret := (some .boolean)) (by decide) rfl (Nat.le_of_ble_eq_true rfl) (fun X hg C hR E => ?_)
  subst hg
  have hE : wkExt S S := wkExt.rf
  have hd : 3 ≤ 3 := Nat.le_refl _
  show wkGo l X 5 0 0 0 S [some (.ref l0A), some (.ref l1A), some (.int l2I), some (.int l3I), none] []
  have ih := tX10_isNext_go (F := F) C hR hd E F
  have h : rX10_isNext_s F (rX10_isNext_go F F) l0A l1A l2I l3I S Φ := h
  unfold rX10_isNext_s at h
  refine wk_aload_n C dX10_isNext_0 rfl rfl ?_
  refine wk_aload_n C dX10_isNext_1 rfl rfl ?_
  refine wk_iload_n C dX10_isNext_2 rfl rfl ?_
  refine wk_callV C hR (As := [.ref l1A, .int l2I]) (cnt := 2) (tX10_findNext (l := l) hW hl0A hl1A h) rfl (wkGoodV (List.mem_of_getElem? (i := 3) rfl) (List.mem_of_getElem? (i := 4) rfl) (List.mem_of_getElem? (i := 5) rfl) (List.mem_of_getElem? (i := 6) rfl) hbX10_isNext_X10_findNext gdX10_findNext) (Nat.le_trans (by decide : 2 + 1 ≤ 3) hd) (by decide) hl0A.1 (fun cy => wAt_10 cy _ hl0A.2) rfl ⟨by decide, by decide, by decide +kernel⟩ rfl rfl (Nat.le_of_ble_eq_true rfl) (Nat.le_refl 0) (Nat.le_refl 0) dX10_isNext_3 (fun v' S6 hp => ?_)
  obtain ⟨v5, rfl, h, hWS6, hXS6⟩ := hp
  refine wk_iconst C (v := 0) dX10_isNext_6 (by decide) ?_
  refine wk_istore C (lv' := [some (.ref l0A), some (.ref l1A), some (.int l2I), some (.int l3I), some (.int (0 : Int32))]) dX10_isNext_7 (by decide) rfl ?_
  exact wk_forget (lv' := [some (.ref l0A), none, none, some (.int l3I), some (.int (0 : Int32))]) (wkLs.le ⟨rfl, rfl, rfl, trivial⟩) (ih _ _ _ _ hWS6 (wkExt.tr hE hXS6) (hXS6 _ _ hl0A) h)
