def wvX11_entries : List Cond := .code yX11_entries cX11_entries 1 (some .int) :: (([.fieldLink RX11 86 "Witnessworks" "entryCount" "I"] : List Cond) ++ ((wsX110) ++ ([])))
theorem huX11_entries_11 : ∀ w ∈ u_ws RX11 TX11 19, w ∈ wvX11_entries := fun w h => List.mem_cons_of_mem _ (List.mem_append_right _ (List.mem_append_left _ h))
theorem gdX11_entries : ∀ w ∈ wvX11_entries, wkGd w := wkGdC rfl (wkGdA (wkGdL (by decide +kernel)) (wkGdA gdX11 (fun _ h => absurd h List.not_mem_nil)))
def rX11_entries (F : Nat) (l0A : Nat) (S : wPS) (Φ : (Int32 → wPS → Prop)) : Prop :=
  Φ (gWitnessworks_entryCount S l0A) S
set_option maxHeartbeats 4000000 in
set_option maxRecDepth 100000 in
theorem tX11_entries {l : Launch} {g : wkG} {F : Nat}  {S : wPS} {l0A : Nat} {Φ : (Int32 → wPS → Prop)} (hW : wkWF S) (hl0A : wkIs S l0A 11) (h : rX11_entries F l0A S Φ) : wkMet l g yX11_entries wvX11_entries 0 0 0 [.ref l0A] S (fun v' S'' => ∃ v : Int32, v' = some (.int v) ∧ Φ v S'' ∧ wkWF S'' ∧ wkExt S S'') := by
  refine wkMet_of (ret := (some .int)) (by decide) rfl (Nat.le_of_ble_eq_true rfl) (fun X hg C hR E => ?_)
  subst hg
  have hE : wkExt S S := wkExt.rf
  have hd : 0 ≤ 0 := Nat.le_refl _
  show wkGo l X 1 0 0 0 S [some (.ref l0A)] []
  unfold rX11_entries at h
  refine wk_aload_n C dX11_entries_0 rfl rfl ?_
  refine wk_get C (v := .int (gWitnessworks_entryCount S l0A)) huX11_entries_11 hl0A.1 (fun cy => wAt_11 cy _ hl0A.2) rfl 2 (by decide) (List.mem_of_getElem? (i := 1) rfl) rfl rfl dX11_entries_1 ?_
  exact E _ _ _ _ _ _ (Nat.le_refl 0) (Nat.le_refl 0) dX11_entries_4 ⟨(gWitnessworks_entryCount S l0A), rfl, h, hW, hE⟩
def wvX11_person : List Cond := .code yX11_person cX11_person 1 (some .int) :: (([.fieldLink RX11 339 "Witnessworks" "personCount" "I"] : List Cond) ++ ((wsX110) ++ ([])))
theorem huX11_person_11 : ∀ w ∈ u_ws RX11 TX11 19, w ∈ wvX11_person := fun w h => List.mem_cons_of_mem _ (List.mem_append_right _ (List.mem_append_left _ h))
theorem gdX11_person : ∀ w ∈ wvX11_person, wkGd w := wkGdC rfl (wkGdA (wkGdL (by decide +kernel)) (wkGdA gdX11 (fun _ h => absurd h List.not_mem_nil)))
def rX11_person (F : Nat) (k n : Nat) (l0A : Nat) (S : wPS) (Φ : (Int32 → wPS → Prop)) (Ψ : String → wPS → Prop) : Prop :=
  if (gWitnessworks_personCount S l0A) < (6 : Int32) then (wkLt (wu_Witnessworks_personCount S l0A ((gWitnessworks_personCount S l0A) + (1 : Int32))) fun S2 => Φ ((gWitnessworks_personCount S2 l0A) - (1 : Int32)) S2) else (0 + 1 ≤ k ∧ 0 + 6 ≤ n ∧ Ψ "java/lang/IllegalStateException" S)
set_option maxHeartbeats 4000000 in
set_option maxRecDepth 100000 in
theorem tX11_person {l : Launch} {g : wkG} {F : Nat} {k n : Nat}  {S : wPS} {l0A : Nat} {Φ : (Int32 → wPS → Prop)} {Ψ : String → wPS → Prop} (hex : wkExA g) (hlt : l.stackTraces = false) (hW : wkWF S) (hl0A : wkIs S l0A 11) (h : rX11_person F k n l0A S Φ Ψ) : wkMetX l g yX11_person wvX11_person 6 k n [.ref l0A] S (fun v' S'' => ∃ v : Int32, v' = some (.int v) ∧ Φ v S'' ∧ wkWF S'' ∧ wkExt S S'') (fun E S'' => Ψ E S'' ∧ wkWF S'' ∧ wkExt S S'') := by
  refine wkMetX_of (ret := (some .int)) (by decide) rfl (Nat.le_of_ble_eq_true rfl) rfl hex hlt (by decide) (fun X hg C hR E EX ET => ?_)
  subst hg
  have hE : wkExt S S := wkExt.rf
  have hd : 6 ≤ 6 := Nat.le_refl _
  show wkGo l X 1 0 0 0 S [some (.ref l0A)] []
  unfold rX11_person at h
  refine wk_aload_n C dX11_person_0 rfl rfl ?_
  refine wk_get C (v := .int (gWitnessworks_personCount S l0A)) huX11_person_11 hl0A.1 (fun cy => wAt_11 cy _ hl0A.2) rfl 13 (by decide) (List.mem_of_getElem? (i := 1) rfl) rfl rfl dX11_person_1 ?_
  refine wk_bipush C (v := 6) dX11_person_4 (by decide) ?_
  refine wk_icmp_lt C (tgt := 20) dX11_person_6 (by decide) (fun c1 => ?_) (fun c1 => ?_)
  · rw [if_pos c1] at h
    refine wk_aload_n C dX11_person_20 rfl rfl ?_
    refine wk_dup C dX11_person_21 rfl ?_
    refine wk_get C (v := .int (gWitnessworks_personCount S l0A)) huX11_person_11 hl0A.1 (fun cy => wAt_11 cy _ hl0A.2) rfl 13 (by decide) (List.mem_of_getElem? (i := 1) rfl) rfl rfl dX11_person_22 ?_
    refine wk_iconst C (v := 1) dX11_person_25 (by decide) ?_
    refine wk_iadd C dX11_person_26 rfl ?_
    obtain ⟨S2, eS2, h⟩ := wkLt_some h
    refine wk_put C (S' := S2) huX11_person_11 hl0A.1 (fun cy => wAt_11 cy _ hl0A.2) rfl 13 (by decide) (List.mem_of_getElem? (i := 1) rfl) rfl tyX11_ok nmX11 rfl (ty := .int) rfl rfl rfl (by show 13 < 19; decide) (fun cy b => by rw [eS2]; exact wSt_11_13 cy _ hl0A.2 _ b) (by rw [eS2]) dX11_person_27 ?_
    have hWS2 : wkWF S2 := by rw [eS2]; exact hW
    have hXS2 : wkExt S S2 := by rw [eS2]; exact wkExt.rf
    refine wk_aload_n C dX11_person_30 rfl rfl ?_
    refine wk_get C (v := .int (gWitnessworks_personCount S2 l0A)) huX11_person_11 (hXS2 _ _ hl0A).1 (fun cy => wAt_11 cy _ (hXS2 _ _ hl0A).2) rfl 13 (by decide) (List.mem_of_getElem? (i := 1) rfl) rfl rfl dX11_person_31 ?_
    refine wk_iconst C (v := 1) dX11_person_34 (by decide) ?_
    refine wk_isub C dX11_person_35 rfl ?_
    exact E _ _ _ _ _ _ (Nat.zero_le _) (Nat.zero_le _) dX11_person_36 ⟨((gWitnessworks_personCount S2 l0A) - (1 : Int32)), rfl, h, hWS2, (wkExt.tr hE hXS2)⟩
  · rw [if_neg c1] at h
    obtain ⟨t3a, t3b, h⟩ := h
    exact ET _ _ _ _ _ _ (90, 342, 94, "java/lang/IllegalStateException", "there are 6 persons") (by decide +kernel) (Nat.le_of_ble_eq_true rfl) (Or.inr ⟨dX11_person_9, dX11_person_12, dX11_person_13, dX11_person_16, dX11_person_19⟩) ⟨h, hW, hE⟩ t3a t3b
def wvX11_wipe : List Cond := .code yX11_wipe cX11_wipe 2 (some .int) :: (([.fieldLink RX11 47 "Witnessworks" "typed" "LWitnessworks$Row;", .fieldLink RX11 230 "Witnessworks$Row" "count" "I", .methodLink RX11 357 yX9_clear, .instanceMethod yX9_clear, .selects RX9 yX9_clear yX9_clear, .initialized RX9] : List Cond) ++ ((wsX110 ++ (wsX90)) ++ (wvX9_clear)))
theorem huX11_wipe_11 : ∀ w ∈ u_ws RX11 TX11 19, w ∈ wvX11_wipe := fun w h => List.mem_cons_of_mem _ (List.mem_append_right _ (List.mem_append_left _ (List.mem_append_left _ h)))
theorem huX11_wipe_9 : ∀ w ∈ u_ws RX9 TX9 2, w ∈ wvX11_wipe := fun w h => List.mem_cons_of_mem _ (List.mem_append_right _ (List.mem_append_left _ (List.mem_append_right _ h)))
theorem hbX11_wipe_X9_clear : ∀ w ∈ wvX9_clear, w ∈ wvX11_wipe := fun w h => List.mem_cons_of_mem _ (List.mem_append_right _ (List.mem_append_right _ h))
theorem gdX11_wipe : ∀ w ∈ wvX11_wipe, wkGd w := wkGdC rfl (wkGdA (wkGdL (by decide +kernel)) (wkGdA (wkGdA gdX11 gdX9) gdX9_clear))
def rX11_wipe (F : Nat) (l0A : Nat) (S : wPS) (Φ : (Int32 → wPS → Prop)) : Prop :=
  wkLt ((gRow_count S (wkAd (gWitnessworks_typed S l0A)))) fun x1 => rX9_clear F (wkAd (gWitnessworks_typed S l0A)) S fun v2 S3 => Φ x1 S3
set_option maxHeartbeats 4000000 in
set_option maxRecDepth 100000 in
theorem tX11_wipe {l : Launch} {g : wkG} {F : Nat}  {S : wPS} {l0A : Nat} {Φ : (Int32 → wPS → Prop)} (hW : wkWF S) (hl0A : wkIs S l0A 11) (h : rX11_wipe F l0A S Φ) : wkMet l g yX11_wipe wvX11_wipe 1 0 0 [.ref l0A] S (fun v' S'' => ∃ v : Int32, v' = some (.int v) ∧ Φ v S'' ∧ wkWF S'' ∧ wkExt S S'') := by
  refine wkMet_of (ret := (some .int)) (by decide) rfl (Nat.le_of_ble_eq_true rfl) (fun X hg C hR E => ?_)
  subst hg
  have hE : wkExt S S := wkExt.rf
  have hd : 1 ≤ 1 := Nat.le_refl _
  show wkGo l X 2 0 0 0 S [some (.ref l0A), none] []
  unfold rX11_wipe at h
  refine wk_aload_n C dX11_wipe_0 rfl rfl ?_
  refine wk_get C huX11_wipe_11 hl0A.1 (fun cy => wAt_11 cy _ hl0A.2) rfl 11 (by decide) (List.mem_of_getElem? (i := 1) rfl) rfl (congrArg some (congrArg va_rf (wf_Witnessworks_typed hW hl0A).1)) dX11_wipe_1 ?_
  refine wk_get C (v := .int (gRow_count S (wkAd (gWitnessworks_typed S l0A)))) huX11_wipe_9 (wf_Witnessworks_typed hW hl0A).2.1 (fun cy => wAt_9 cy _ (wf_Witnessworks_typed hW hl0A).2.2) rfl 1 (by decide) (List.mem_of_getElem? (i := 2) rfl) rfl rfl dX11_wipe_4 ?_
  obtain ⟨x1, ex1, h⟩ := wkLt_some h
  refine wk_topi ex1 ?_
  refine wk_istore_n C (lv' := [some (.ref l0A), some (.int x1)]) dX11_wipe_7 rfl (by decide) rfl ?_
  refine wk_aload_n C dX11_wipe_8 rfl rfl ?_
  refine wk_get C huX11_wipe_11 hl0A.1 (fun cy => wAt_11 cy _ hl0A.2) rfl 11 (by decide) (List.mem_of_getElem? (i := 1) rfl) rfl (congrArg some (congrArg va_rf (wf_Witnessworks_typed hW hl0A).1)) dX11_wipe_9 ?_
  refine wk_callV C hR (As := []) (cnt := 0) (tX9_clear (l := l) hW (wf_Witnessworks_typed hW hl0A).2 h) rfl (wkGoodV (List.mem_of_getElem? (i := 3) rfl) (List.mem_of_getElem? (i := 4) rfl) (List.mem_of_getElem? (i := 5) rfl) (List.mem_of_getElem? (i := 6) rfl) hbX11_wipe_X9_clear gdX9_clear) (Nat.le_trans (by decide : 0 + 1 ≤ 1) hd) (by decide) (wf_Witnessworks_typed hW hl0A).2.1 (fun cy => wAt_9 cy _ (wf_Witnessworks_typed hW hl0A).2.2) rfl ⟨by decide, by decide, by decide +kernel⟩ rfl rfl (Nat.le_of_ble_eq_true rfl) (Nat.le_refl 0) (Nat.le_refl 0) dX11_wipe_12 (fun v' S3 hp => ?_)
  obtain ⟨v2, rfl, h, hWS3, hXS3⟩ := hp
  refine wk_iload_n C dX11_wipe_15 rfl rfl ?_
  exact E _ _ _ _ _ _ (Nat.le_refl 0) (Nat.le_refl 0) dX11_wipe_16 ⟨x1, rfl, h, hWS3, (wkExt.tr hE hXS3)⟩
def wvX11_canHaveSize : List Cond := .code yX11_canHaveSize cX11_canHaveSize 2 (some .boolean) :: (([.fieldLink RX11 457 "Witnessworks" "LEAST_SIZE" "[I", .fieldLink RX11 460 "Witnessworks" "MOST_SIZE" "[I"] : List Cond) ++ (([]) ++ ([])))
theorem gdX11_canHaveSize : ∀ w ∈ wvX11_canHaveSize, wkGd w := wkGdC rfl (wkGdA (wkGdL (by decide +kernel)) (wkGdA (fun _ h => absurd h List.not_mem_nil) (fun _ h => absurd h List.not_mem_nil)))
def rX11_canHaveSize (F : Nat) (l0I : Int32) (l1I : Int32) (S : wPS) (Φ : (Int32 → wPS → Prop)) : Prop :=
  ¬ (l0I < 0 ∨ 12 ≤ (l0I).toNatClampNeg) ∧ if l1I < (wkTab 0 (l0I).toNatClampNeg) then (Φ (0 : Int32) S) else (¬ (l0I < 0 ∨ 12 ≤ (l0I).toNatClampNeg) ∧ if (wkTab 1 (l0I).toNatClampNeg) < l1I then (Φ (0 : Int32) S) else (Φ (1 : Int32) S))
set_option maxHeartbeats 4000000 in
set_option maxRecDepth 100000 in
theorem tX11_canHaveSize {l : Launch} {g : wkG} {F : Nat}  {S : wPS} {l0I : Int32} {l1I : Int32} {Φ : (Int32 → wPS → Prop)} (hst : wkSta g) (hW : wkWF S)  (h : rX11_canHaveSize F l0I l1I S Φ) : wkMet l g yX11_canHaveSize wvX11_canHaveSize 0 0 0 [.int l0I, .int l1I] S (fun v' S'' => ∃ v : Int32, v' = some (.int v) ∧ Φ v S'' ∧ wkWF S'' ∧ wkExt S S'') := by
  refine wkMet_of (ret := (some .boolean)) (by decide) rfl (Nat.le_of_ble_eq_true rfl) (fun X hg C hR E => ?_)
  subst hg
  have hE : wkExt S S := wkExt.rf
  have hd : 0 ≤ 0 := Nat.le_refl _
  show wkGo l X 2 0 0 0 S [some (.int l0I), some (.int l1I)] []
  unfold rX11_canHaveSize at h
  refine wk_iload_n C dX11_canHaveSize_0 rfl rfl ?_
  refine wk_gets C hst (i := 0) (by decide) (List.mem_of_getElem? (i := 1) rfl) dX11_canHaveSize_1 ?_
  refine wk_iload_n C dX11_canHaveSize_4 rfl rfl ?_
  obtain ⟨i1, h⟩ := h
  refine wk_tabld C hst (i := 0) (by decide) i1 rfl dX11_canHaveSize_5 ?_
  refine wk_icmp_lt C (tgt := 22) dX11_canHaveSize_6 (by decide) (fun c2 => ?_) (fun c2 => ?_)
  · rw [if_pos c2] at h
    refine wk_iconst C (v := 0) dX11_canHaveSize_22 (by decide) ?_
    exact E _ _ _ _ _ _ (Nat.le_refl 0) (Nat.le_refl 0) dX11_canHaveSize_23 rfl ⟨(0 : Int32), rfl, h, hW, hE⟩
  · rw [if_neg c2] at h
    refine wk_iload_n C dX11_canHaveSize_9 rfl rfl ?_
    refine wk_gets C hst (i := 1) (by decide) (List.mem_of_getElem? (i := 2) rfl) dX11_canHaveSize_10 ?_
    refine wk_iload_n C dX11_canHaveSize_13 rfl rfl ?_
    obtain ⟨i3, h⟩ := h
    refine wk_tabld C hst (i := 1) (by decide) i3 rfl dX11_canHaveSize_14 ?_
    refine wk_icmp_gt C (tgt := 22) dX11_canHaveSize_15 (by decide) (fun c4 => ?_) (fun c4 => ?_)
    · rw [if_pos c4] at h
      refine wk_iconst C (v := 0) dX11_canHaveSize_22 (by decide) ?_
      exact E _ _ _ _ _ _ (Nat.le_refl 0) (Nat.le_refl 0) dX11_canHaveSize_23 rfl ⟨(0 : Int32), rfl, h, hW, hE⟩
    · rw [if_neg c4] at h
      refine wk_iconst C (v := 1) dX11_canHaveSize_18 (by decide) ?_
      refine wk_goto C (tgt := 23) dX11_canHaveSize_19 (by decide) ?_
      exact E _ _ _ _ _ _ (Nat.le_refl 0) (Nat.le_refl 0) dX11_canHaveSize_23 rfl ⟨(1 : Int32), rfl, h, hW, hE⟩
def wvX11_canHaveBound : List Cond := .code yX11_canHaveBound cX11_canHaveBound 2 (some .boolean) :: (([.fieldLink RX11 463 "Witnessworks" "LEAST_BOUND" "[I", .fieldLink RX11 466 "Witnessworks" "MOST_BOUND" "[I"] : List Cond) ++ (([]) ++ ([])))
theorem gdX11_canHaveBound : ∀ w ∈ wvX11_canHaveBound, wkGd w := wkGdC rfl (wkGdA (wkGdL (by decide +kernel)) (wkGdA (fun _ h => absurd h List.not_mem_nil) (fun _ h => absurd h List.not_mem_nil)))
def rX11_canHaveBound (F : Nat) (l0I : Int32) (l1I : Int32) (S : wPS) (Φ : (Int32 → wPS → Prop)) : Prop :=
  ¬ (l0I < 0 ∨ 12 ≤ (l0I).toNatClampNeg) ∧ if l1I < (wkTab 2 (l0I).toNatClampNeg) then (Φ (0 : Int32) S) else (¬ (l0I < 0 ∨ 12 ≤ (l0I).toNatClampNeg) ∧ if (wkTab 3 (l0I).toNatClampNeg) < l1I then (Φ (0 : Int32) S) else (Φ (1 : Int32) S))
set_option maxHeartbeats 4000000 in
set_option maxRecDepth 100000 in
theorem tX11_canHaveBound {l : Launch} {g : wkG} {F : Nat}  {S : wPS} {l0I : Int32} {l1I : Int32} {Φ : (Int32 → wPS → Prop)} (hst : wkSta g) (hW : wkWF S)  (h : rX11_canHaveBound F l0I l1I S Φ) : wkMet l g yX11_canHaveBound wvX11_canHaveBound 0 0 0 [.int l0I, .int l1I] S (fun v' S'' => ∃ v : Int32, v' = some (.int v) ∧ Φ v S'' ∧ wkWF S'' ∧ wkExt S S'') := by
  refine wkMet_of (ret := (some .boolean)) (by decide) rfl (Nat.le_of_ble_eq_true rfl) (fun X hg C hR E => ?_)
  subst hg
  have hE : wkExt S S := wkExt.rf
  have hd : 0 ≤ 0 := Nat.le_refl _
  show wkGo l X 2 0 0 0 S [some (.int l0I), some (.int l1I)] []
  unfold rX11_canHaveBound at h
  refine wk_iload_n C dX11_canHaveBound_0 rfl rfl ?_
  refine wk_gets C hst (i := 2) (by decide) (List.mem_of_getElem? (i := 1) rfl) dX11_canHaveBound_1 ?_
  refine wk_iload_n C dX11_canHaveBound_4 rfl rfl ?_
  obtain ⟨i1, h⟩ := h
  refine wk_tabld C hst (i := 2) (by decide) i1 rfl dX11_canHaveBound_5 ?_
  refine wk_icmp_lt C (tgt := 22) dX11_canHaveBound_6 (by decide) (fun c2 => ?_) (fun c2 => ?_)
  · rw [if_pos c2] at h
    refine wk_iconst C (v := 0) dX11_canHaveBound_22 (by decide) ?_
    exact E _ _ _ _ _ _ (Nat.le_refl 0) (Nat.le_refl 0) dX11_canHaveBound_23 rfl ⟨(0 : Int32), rfl, h, hW, hE⟩
  · rw [if_neg c2] at h
    refine wk_iload_n C dX11_canHaveBound_9 rfl rfl ?_
    refine wk_gets C hst (i := 3) (by decide) (List.mem_of_getElem? (i := 2) rfl) dX11_canHaveBound_10 ?_
    refine wk_iload_n C dX11_canHaveBound_13 rfl rfl ?_
    obtain ⟨i3, h⟩ := h
    refine wk_tabld C hst (i := 3) (by decide) i3 rfl dX11_canHaveBound_14 ?_
    refine wk_icmp_gt C (tgt := 22) dX11_canHaveBound_15 (by decide) (fun c4 => ?_) (fun c4 => ?_)
    · rw [if_pos c4] at h
      refine wk_iconst C (v := 0) dX11_canHaveBound_22 (by decide) ?_
      exact E _ _ _ _ _ _ (Nat.le_refl 0) (Nat.le_refl 0) dX11_canHaveBound_23 rfl ⟨(0 : Int32), rfl, h, hW, hE⟩
    · rw [if_neg c4] at h
      refine wk_iconst C (v := 1) dX11_canHaveBound_18 (by decide) ?_
      refine wk_goto C (tgt := 23) dX11_canHaveBound_19 (by decide) ?_
      exact E _ _ _ _ _ _ (Nat.le_refl 0) (Nat.le_refl 0) dX11_canHaveBound_23 rfl ⟨(1 : Int32), rfl, h, hW, hE⟩
def wvX11_mostItems : List Cond := .code yX11_mostItems cX11_mostItems 1 (some .int) :: (([.fieldLink RX11 147 "Witnessworks$Entry" "kind" "I", .fieldLink RX11 184 "Witnessworks$Entry" "size" "I", .fieldLink RX11 469 "Witnessworks" "MOST_ITEMS" "[I"] : List Cond) ++ ((wsX30) ++ ([])))
theorem huX11_mostItems_3 : ∀ w ∈ u_ws RX3 TX3 17, w ∈ wvX11_mostItems := fun w h => List.mem_cons_of_mem _ (List.mem_append_right _ (List.mem_append_left _ h))
theorem gdX11_mostItems : ∀ w ∈ wvX11_mostItems, wkGd w := wkGdC rfl (wkGdA (wkGdL (by decide +kernel)) (wkGdA gdX3 (fun _ h => absurd h List.not_mem_nil)))
def rX11_mostItems (F : Nat) (l0A : Nat) (S : wPS) (Φ : (Int32 → wPS → Prop)) : Prop :=
  if (gEntry_kind S l0A) = (10 : Int32) then (Φ (gEntry_size S l0A) S) else (if (gEntry_kind S l0A) = (11 : Int32) then (Φ (gEntry_size S l0A) S) else (¬ ((gEntry_kind S l0A) < 0 ∨ 12 ≤ ((gEntry_kind S l0A)).toNatClampNeg) ∧ Φ (wkTab 4 ((gEntry_kind S l0A)).toNatClampNeg) S))
set_option maxHeartbeats 4000000 in
set_option maxRecDepth 100000 in
theorem tX11_mostItems {l : Launch} {g : wkG} {F : Nat}  {S : wPS} {l0A : Nat} {Φ : (Int32 → wPS → Prop)} (hst : wkSta g) (hW : wkWF S) (hl0A : wkIs S l0A 3) (h : rX11_mostItems F l0A S Φ) : wkMet l g yX11_mostItems wvX11_mostItems 0 0 0 [.ref l0A] S (fun v' S'' => ∃ v : Int32, v' = some (.int v) ∧ Φ v S'' ∧ wkWF S'' ∧ wkExt S S'') := by
  refine wkMet_of (ret := (some .int)) (by decide) rfl (Nat.le_of_ble_eq_true rfl) (fun X hg C hR E => ?_)
  subst hg
  have hE : wkExt S S := wkExt.rf
  have hd : 0 ≤ 0 := Nat.le_refl _
  show wkGo l X 1 0 0 0 S [some (.ref l0A)] []
  unfold rX11_mostItems at h
  refine wk_aload_n C dX11_mostItems_0 rfl rfl ?_
  refine wk_get C (v := .int (gEntry_kind S l0A)) huX11_mostItems_3 hl0A.1 (fun cy => wAt_3 cy _ hl0A.2) rfl 0 (by decide) (List.mem_of_getElem? (i := 1) rfl) rfl rfl dX11_mostItems_1 ?_
  refine wk_bipush C (v := 10) dX11_mostItems_4 (by decide) ?_
  refine wk_icmp_eq C (tgt := 18) dX11_mostItems_6 (by decide) (fun c1 => ?_) (fun c1 => ?_)
  · rw [if_pos c1] at h
    refine wk_aload_n C dX11_mostItems_18 rfl rfl ?_
    refine wk_get C (v := .int (gEntry_size S l0A)) huX11_mostItems_3 hl0A.1 (fun cy => wAt_3 cy _ hl0A.2) rfl 1 (by decide) (List.mem_of_getElem? (i := 2) rfl) rfl rfl dX11_mostItems_19 ?_
    exact E _ _ _ _ _ _ (Nat.le_refl 0) (Nat.le_refl 0) dX11_mostItems_22 ⟨(gEntry_size S l0A), rfl, h, hW, hE⟩
  · rw [if_neg c1] at h
    refine wk_aload_n C dX11_mostItems_9 rfl rfl ?_
    refine wk_get C (v := .int (gEntry_kind S l0A)) huX11_mostItems_3 hl0A.1 (fun cy => wAt_3 cy _ hl0A.2) rfl 0 (by decide) (List.mem_of_getElem? (i := 1) rfl) rfl rfl dX11_mostItems_10 ?_
    refine wk_bipush C (v := 11) dX11_mostItems_13 (by decide) ?_
    refine wk_icmp_ne C (tgt := 23) dX11_mostItems_15 (by decide) (fun c2 => ?_) (fun c2 => ?_)
    · rw [if_neg c2] at h
      refine wk_gets C hst (i := 4) (by decide) (List.mem_of_getElem? (i := 3) rfl) dX11_mostItems_23 ?_
      refine wk_aload_n C dX11_mostItems_26 rfl rfl ?_
      refine wk_get C (v := .int (gEntry_kind S l0A)) huX11_mostItems_3 hl0A.1 (fun cy => wAt_3 cy _ hl0A.2) rfl 0 (by decide) (List.mem_of_getElem? (i := 1) rfl) rfl rfl dX11_mostItems_27 ?_
      obtain ⟨i3, h⟩ := h
      refine wk_tabld C hst (i := 4) (by decide) i3 rfl dX11_mostItems_30 ?_
      exact E _ _ _ _ _ _ (Nat.le_refl 0) (Nat.le_refl 0) dX11_mostItems_31 ⟨(wkTab 4 ((gEntry_kind S l0A)).toNatClampNeg), rfl, h, hW, hE⟩
    · rw [if_pos c2] at h
      refine wk_aload_n C dX11_mostItems_18 rfl rfl ?_
      refine wk_get C (v := .int (gEntry_size S l0A)) huX11_mostItems_3 hl0A.1 (fun cy => wAt_3 cy _ hl0A.2) rfl 1 (by decide) (List.mem_of_getElem? (i := 2) rfl) rfl rfl dX11_mostItems_19 ?_
      exact E _ _ _ _ _ _ (Nat.le_refl 0) (Nat.le_refl 0) dX11_mostItems_22 ⟨(gEntry_size S l0A), rfl, h, hW, hE⟩
def wvX11_entryAt : List Cond := .code yX11_entryAt cX11_entryAt 2 (some (.object "Witnessworks$Entry")) :: (([.fieldLink RX11 86 "Witnessworks" "entryCount" "I", .fieldLink RX11 18 "Witnessworks" "book" "[LWitnessworks$Entry;"] : List Cond) ++ ((wsX110) ++ ([])))
theorem huX11_entryAt_11 : ∀ w ∈ u_ws RX11 TX11 19, w ∈ wvX11_entryAt := fun w h => List.mem_cons_of_mem _ (List.mem_append_right _ (List.mem_append_left _ h))
theorem gdX11_entryAt : ∀ w ∈ wvX11_entryAt, wkGd w := wkGdC rfl (wkGdA (wkGdL (by decide +kernel)) (wkGdA gdX11 (fun _ h => absurd h List.not_mem_nil)))
def rX11_entryAt (F : Nat) (k n : Nat) (l0A : Nat) (l1I : Int32) (S : wPS) (Φ : (Nat → wPS → Prop)) (Ψ : String → wPS → Prop) : Prop :=
  if l1I < 0 then (0 + 1 ≤ k ∧ 0 + 6 ≤ n ∧ Ψ "java/lang/IndexOutOfBoundsException" S) else (if l1I < (gWitnessworks_entryCount S l0A) then (¬ (l1I < 0 ∨ S.len (wkAd (gWitnessworks_book S l0A)) ≤ (l1I).toNatClampNeg) ∧ Φ (wkAd (S.rA (wkAd (gWitnessworks_book S l0A)) (l1I).toNatClampNeg)) S) else (0 + 1 ≤ k ∧ 0 + 6 ≤ n ∧ Ψ "java/lang/IndexOutOfBoundsException" S))
set_option maxHeartbeats 4000000 in
set_option maxRecDepth 100000 in
theorem tX11_entryAt {l : Launch} {g : wkG} {F : Nat} {k n : Nat}  {S : wPS} {l0A : Nat} {l1I : Int32} {Φ : (Nat → wPS → Prop)} {Ψ : String → wPS → Prop} (hex : wkExA g) (hlt : l.stackTraces = false) (hW : wkWF S) (hl0A : wkIs S l0A 11) (h : rX11_entryAt F k n l0A l1I S Φ Ψ) : wkMetX l g yX11_entryAt wvX11_entryAt 6 k n [.ref l0A, .int l1I] S (fun v' S'' => ∃ v : Nat, v' = some (.ref v) ∧ Φ v S'' ∧ wkWF S'' ∧ wkExt S S'' ∧ wkIs S'' v 3) (fun E S'' => Ψ E S'' ∧ wkWF S'' ∧ wkExt S S'') := by
  refine wkMetX_of (ret := (some (.object "Witnessworks$Entry"))) (by decide) rfl (Nat.le_of_ble_eq_true rfl) rfl hex hlt (by decide) (fun X hg C hR E EX ET => ?_)
  subst hg
  have hE : wkExt S S := wkExt.rf
  have hd : 6 ≤ 6 := Nat.le_refl _
  show wkGo l X 2 0 0 0 S [some (.ref l0A), some (.int l1I)] []
  unfold rX11_entryAt at h
  refine wk_iload_n C dX11_entryAt_0 rfl rfl ?_
  refine wk_if_lt C (tgt := 12) dX11_entryAt_1 (by decide) (fun c1 => ?_) (fun c1 => ?_)
  · rw [if_pos c1] at h
    obtain ⟨t2a, t2b, h⟩ := h
    exact ET _ _ _ _ _ _ (386, 472, 390, "java/lang/IndexOutOfBoundsException", "no such entry") (by decide +kernel) (Nat.le_of_ble_eq_true rfl) (Or.inr ⟨dX11_entryAt_12, dX11_entryAt_15, dX11_entryAt_16, dX11_entryAt_19, dX11_entryAt_22⟩) ⟨h, hW, hE⟩ t2a t2b
  · rw [if_neg c1] at h
    refine wk_iload_n C dX11_entryAt_4 rfl rfl ?_
    refine wk_aload_n C dX11_entryAt_5 rfl rfl ?_
    refine wk_get C (v := .int (gWitnessworks_entryCount S l0A)) huX11_entryAt_11 hl0A.1 (fun cy => wAt_11 cy _ hl0A.2) rfl 2 (by decide) (List.mem_of_getElem? (i := 1) rfl) rfl rfl dX11_entryAt_6 ?_
    refine wk_icmp_lt C (tgt := 23) dX11_entryAt_9 (by decide) (fun c3 => ?_) (fun c3 => ?_)
    · rw [if_pos c3] at h
      refine wk_aload_n C dX11_entryAt_23 rfl rfl ?_
      refine wk_get C huX11_entryAt_11 hl0A.1 (fun cy => wAt_11 cy _ hl0A.2) rfl 1 (by decide) (List.mem_of_getElem? (i := 2) rfl) rfl (congrArg some (congrArg va_rf (wf_Witnessworks_book hW hl0A).1)) dX11_entryAt_24 ?_
      refine wk_iload_n C dX11_entryAt_27 rfl rfl ?_
      obtain ⟨i4, h⟩ := h
      have w5 := wf_REntry hW (wf_Witnessworks_book hW hl0A).2 (Nat.not_le.mp fun q => i4 (Or.inr q))
      refine wk_aaldEntry C (wf_Witnessworks_book hW hl0A).2.1 (wf_Witnessworks_book hW hl0A).2.2 i4 w5.1 dX11_entryAt_28 ?_
      exact E _ _ _ _ _ _ (Nat.zero_le _) (Nat.zero_le _) dX11_entryAt_29 ⟨(wkAd (S.rA (wkAd (gWitnessworks_book S l0A)) (l1I).toNatClampNeg)), rfl, h, hW, hE, w5.2⟩
    · rw [if_neg c3] at h
      obtain ⟨t6a, t6b, h⟩ := h
      exact ET _ _ _ _ _ _ (386, 472, 390, "java/lang/IndexOutOfBoundsException", "no such entry") (by decide +kernel) (Nat.le_of_ble_eq_true rfl) (Or.inr ⟨dX11_entryAt_12, dX11_entryAt_15, dX11_entryAt_16, dX11_entryAt_19, dX11_entryAt_22⟩) ⟨h, hW, hE⟩ t6a t6b
def wvX11_testPlace : List Cond := .code yX11_testPlace cX11_testPlace 2 none :: (([] : List Cond) ++ (([]) ++ ([])))
theorem gdX11_testPlace : ∀ w ∈ wvX11_testPlace, wkGd w := wkGdC rfl (wkGdA (wkGdL (by decide +kernel)) (wkGdA (fun _ h => absurd h List.not_mem_nil) (fun _ h => absurd h List.not_mem_nil)))
def rX11_testPlace (F : Nat) (k n : Nat) (l0I : Int32) (l1I : Int32) (S : wPS) (Φ : (Unit → wPS → Prop)) (Ψ : String → wPS → Prop) : Prop :=
  if l0I < 0 then (0 + 1 ≤ k ∧ 0 + 6 ≤ n ∧ Ψ "java/util/NoSuchElementException" S) else (if l0I < l1I then (Φ () S) else (0 + 1 ≤ k ∧ 0 + 6 ≤ n ∧ Ψ "java/util/NoSuchElementException" S))
set_option maxHeartbeats 4000000 in
set_option maxRecDepth 100000 in
theorem tX11_testPlace {l : Launch} {g : wkG} {F : Nat} {k n : Nat}  {S : wPS} {l0I : Int32} {l1I : Int32} {Φ : (Unit → wPS → Prop)} {Ψ : String → wPS → Prop} (hex : wkExA g) (hlt : l.stackTraces = false) (hW : wkWF S)  (h : rX11_testPlace F k n l0I l1I S Φ Ψ) : wkMetX l g yX11_testPlace wvX11_testPlace 6 k n [.int l0I, .int l1I] S (fun v' S'' => ∃ v : Unit, v' = none ∧ Φ v S'' ∧ wkWF S'' ∧ wkExt S S'') (fun E S'' => Ψ E S'' ∧ wkWF S'' ∧ wkExt S S'') := by
  refine wkMetX_of (ret := none) (by decide) rfl (Nat.le_of_ble_eq_true rfl) rfl hex hlt (by decide) (fun X hg C hR E EX ET => ?_)
  subst hg
  have hE : wkExt S S := wkExt.rf
  have hd : 6 ≤ 6 := Nat.le_refl _
  show wkGo l X 2 0 0 0 S [some (.int l0I), some (.int l1I)] []
  unfold rX11_testPlace at h
  refine wk_iload_n C dX11_testPlace_0 rfl rfl ?_
  refine wk_if_lt C (tgt := 9) dX11_testPlace_1 (by decide) (fun c1 => ?_) (fun c1 => ?_)
  · rw [if_pos c1] at h
    obtain ⟨t2a, t2b, h⟩ := h
    exact ET _ _ _ _ _ _ (197, 474, 201, "java/util/NoSuchElementException", "no such place") (by decide +kernel) (Nat.le_of_ble_eq_true rfl) (Or.inr ⟨dX11_testPlace_9, dX11_testPlace_12, dX11_testPlace_13, dX11_testPlace_16, dX11_testPlace_19⟩) ⟨h, hW, hE⟩ t2a t2b
  · rw [if_neg c1] at h
    refine wk_iload_n C dX11_testPlace_4 rfl rfl ?_
    refine wk_iload_n C dX11_testPlace_5 rfl rfl ?_
    refine wk_icmp_lt C (tgt := 20) dX11_testPlace_6 (by decide) (fun c3 => ?_) (fun c3 => ?_)
    · rw [if_pos c3] at h
      exact E _ _ _ _ _ (Nat.zero_le _) (Nat.zero_le _) dX11_testPlace_20 ⟨(), rfl, h, hW, hE⟩
    · rw [if_neg c3] at h
      obtain ⟨t4a, t4b, h⟩ := h
      exact ET _ _ _ _ _ _ (197, 474, 201, "java/util/NoSuchElementException", "no such place") (by decide +kernel) (Nat.le_of_ble_eq_true rfl) (Or.inr ⟨dX11_testPlace_9, dX11_testPlace_12, dX11_testPlace_13, dX11_testPlace_16, dX11_testPlace_19⟩) ⟨h, hW, hE⟩ t4a t4b
def wvX11_testRange : List Cond := .code yX11_testRange cX11_testRange 3 none :: (([] : List Cond) ++ (([]) ++ ([])))
theorem gdX11_testRange : ∀ w ∈ wvX11_testRange, wkGd w := wkGdC rfl (wkGdA (wkGdL (by decide +kernel)) (wkGdA (fun _ h => absurd h List.not_mem_nil) (fun _ h => absurd h List.not_mem_nil)))
def rX11_testRange (F : Nat) (k n : Nat) (l0I : Int32) (l1I : Int32) (l2I : Int32) (S : wPS) (Φ : (Unit → wPS → Prop)) (Ψ : String → wPS → Prop) : Prop :=
  if l0I < l1I then (0 + 1 ≤ k ∧ 0 + 6 ≤ n ∧ Ψ "java/lang/IllegalArgumentException" S) else (if l0I ≤ l2I then (Φ () S) else (0 + 1 ≤ k ∧ 0 + 6 ≤ n ∧ Ψ "java/lang/IllegalArgumentException" S))
set_option maxHeartbeats 4000000 in
set_option maxRecDepth 100000 in
theorem tX11_testRange {l : Launch} {g : wkG} {F : Nat} {k n : Nat}  {S : wPS} {l0I : Int32} {l1I : Int32} {l2I : Int32} {Φ : (Unit → wPS → Prop)} {Ψ : String → wPS → Prop} (hex : wkExA g) (hlt : l.stackTraces = false) (hW : wkWF S)  (h : rX11_testRange F k n l0I l1I l2I S Φ Ψ) : wkMetX l g yX11_testRange wvX11_testRange 6 k n [.int l0I, .int l1I, .int l2I] S (fun v' S'' => ∃ v : Unit, v' = none ∧ Φ v S'' ∧ wkWF S'' ∧ wkExt S S'') (fun E S'' => Ψ E S'' ∧ wkWF S'' ∧ wkExt S S'') := by
  refine wkMetX_of (ret := none) (by decide) rfl (Nat.le_of_ble_eq_true rfl) rfl hex hlt (by decide) (fun X hg C hR E EX ET => ?_)
  subst hg
  have hE : wkExt S S := wkExt.rf
  have hd : 6 ≤ 6 := Nat.le_refl _
  show wkGo l X 3 0 0 0 S [some (.int l0I), some (.int l1I), some (.int l2I)] []
  unfold rX11_testRange at h
  refine wk_iload_n C dX11_testRange_0 rfl rfl ?_
  refine wk_iload_n C dX11_testRange_1 rfl rfl ?_
  refine wk_icmp_lt C (tgt := 10) dX11_testRange_2 (by decide) (fun c1 => ?_) (fun c1 => ?_)
  · rw [if_pos c1] at h
    obtain ⟨t2a, t2b, h⟩ := h
    exact ET _ _ _ _ _ _ (79, 476, 83, "java/lang/IllegalArgumentException", "a number is out of range") (by decide +kernel) (Nat.le_of_ble_eq_true rfl) (Or.inr ⟨dX11_testRange_10, dX11_testRange_13, dX11_testRange_14, dX11_testRange_17, dX11_testRange_20⟩) ⟨h, hW, hE⟩ t2a t2b
  · rw [if_neg c1] at h
    refine wk_iload_n C dX11_testRange_5 rfl rfl ?_
    refine wk_iload_n C dX11_testRange_6 rfl rfl ?_
    refine wk_icmp_le C (tgt := 21) dX11_testRange_7 (by decide) (fun c3 => ?_) (fun c3 => ?_)
    · rw [if_pos c3] at h
      exact E _ _ _ _ _ (Nat.zero_le _) (Nat.zero_le _) dX11_testRange_21 ⟨(), rfl, h, hW, hE⟩
    · rw [if_neg c3] at h
      obtain ⟨t4a, t4b, h⟩ := h
      exact ET _ _ _ _ _ _ (79, 476, 83, "java/lang/IllegalArgumentException", "a number is out of range") (by decide +kernel) (Nat.le_of_ble_eq_true rfl) (Or.inr ⟨dX11_testRange_10, dX11_testRange_13, dX11_testRange_14, dX11_testRange_17, dX11_testRange_20⟩) ⟨h, hW, hE⟩ t4a t4b
def wvX11_tellNumbers : List Cond := .code yX11_tellNumbers cX11_tellNumbers 6 none :: (([.fieldLink RX11 26 "Witnessworks" "told" "[I"] : List Cond) ++ ((wsX110) ++ ([])))
theorem huX11_tellNumbers_11 : ∀ w ∈ u_ws RX11 TX11 19, w ∈ wvX11_tellNumbers := fun w h => List.mem_cons_of_mem _ (List.mem_append_right _ (List.mem_append_left _ h))
theorem gdX11_tellNumbers : ∀ w ∈ wvX11_tellNumbers, wkGd w := wkGdC rfl (wkGdA (wkGdL (by decide +kernel)) (wkGdA gdX11 (fun _ h => absurd h List.not_mem_nil)))
def rX11_tellNumbers (F : Nat) (l0A : Nat) (l1I : Int32) (l2I : Int32) (l3I : Int32) (l4I : Int32) (l5I : Int32) (S : wPS) (Φ : (Unit → wPS → Prop)) : Prop :=
  ¬ ((0 : Int32) < 0 ∨ S.len (wkAd (gWitnessworks_told S l0A)) ≤ ((0 : Int32)).toNatClampNeg) ∧ wkLt (wuI S (wkAd (gWitnessworks_told S l0A)) (0 : Int32) l1I) fun S2 => ¬ ((1 : Int32) < 0 ∨ S2.len (wkAd (gWitnessworks_told S2 l0A)) ≤ ((1 : Int32)).toNatClampNeg) ∧ wkLt (wuI S2 (wkAd (gWitnessworks_told S2 l0A)) (1 : Int32) l2I) fun S4 => ¬ ((2 : Int32) < 0 ∨ S4.len (wkAd (gWitnessworks_told S4 l0A)) ≤ ((2 : Int32)).toNatClampNeg) ∧ wkLt (wuI S4 (wkAd (gWitnessworks_told S4 l0A)) (2 : Int32) l3I) fun S6 => ¬ ((3 : Int32) < 0 ∨ S6.len (wkAd (gWitnessworks_told S6 l0A)) ≤ ((3 : Int32)).toNatClampNeg) ∧ wkLt (wuI S6 (wkAd (gWitnessworks_told S6 l0A)) (3 : Int32) l4I) fun S8 => ¬ ((4 : Int32) < 0 ∨ S8.len (wkAd (gWitnessworks_told S8 l0A)) ≤ ((4 : Int32)).toNatClampNeg) ∧ wkLt (wuI S8 (wkAd (gWitnessworks_told S8 l0A)) (4 : Int32) l5I) fun S10 => Φ () S10
set_option maxHeartbeats 4000000 in
set_option maxRecDepth 100000 in
theorem tX11_tellNumbers {l : Launch} {g : wkG} {F : Nat}  {S : wPS} {l0A : Nat} {l1I : Int32} {l2I : Int32} {l3I : Int32} {l4I : Int32} {l5I : Int32} {Φ : (Unit → wPS → Prop)} (hW : wkWF S) (hl0A : wkIs S l0A 11) (h : rX11_tellNumbers F l0A l1I l2I l3I l4I l5I S Φ) : wkMet l g yX11_tellNumbers wvX11_tellNumbers 0 0 0 [.ref l0A, .int l1I, .int l2I, .int l3I, .int l4I, .int l5I] S (fun v' S'' => ∃ v : Unit, v' = none ∧ Φ v S'' ∧ wkWF S'' ∧ wkExt S S'') := by
  refine wkMet_of (ret := none) (by decide) rfl (Nat.le_of_ble_eq_true rfl) (fun X hg C hR E => ?_)
  subst hg
  have hE : wkExt S S := wkExt.rf
  have hd : 0 ≤ 0 := Nat.le_refl _
  show wkGo l X 6 0 0 0 S [some (.ref l0A), some (.int l1I), some (.int l2I), some (.int l3I), some (.int l4I), some (.int l5I)] []
  unfold rX11_tellNumbers at h
  refine wk_aload_n C dX11_tellNumbers_0 rfl rfl ?_
  refine wk_get C huX11_tellNumbers_11 hl0A.1 (fun cy => wAt_11 cy _ hl0A.2) rfl 4 (by decide) (List.mem_of_getElem? (i := 1) rfl) rfl (congrArg some (congrArg va_rf (wf_Witnessworks_told hW hl0A).1)) dX11_tellNumbers_1 ?_
  refine wk_iconst C (v := 0) dX11_tellNumbers_4 (by decide) ?_
  refine wk_iload_n C dX11_tellNumbers_5 rfl rfl ?_
  obtain ⟨i1, h⟩ := h
  obtain ⟨S2, eS2, h⟩ := wkLt_some h
  refine wk_iast C (wf_Witnessworks_told hW hl0A).2.1 (wf_Witnessworks_told hW hl0A).2.2 i1 eS2.symm dX11_tellNumbers_6 ?_
  have hWS2 : wkWF S2 := by rw [eS2]; exact hW
  have hXS2 : wkExt S S2 := by rw [eS2]; exact wkExt.rf
  refine wk_aload_n C dX11_tellNumbers_7 rfl rfl ?_
  refine wk_get C huX11_tellNumbers_11 (hXS2 _ _ hl0A).1 (fun cy => wAt_11 cy _ (hXS2 _ _ hl0A).2) rfl 4 (by decide) (List.mem_of_getElem? (i := 1) rfl) rfl (congrArg some (congrArg va_rf (wf_Witnessworks_told hWS2 (hXS2 _ _ hl0A)).1)) dX11_tellNumbers_8 ?_
  refine wk_iconst C (v := 1) dX11_tellNumbers_11 (by decide) ?_
  refine wk_iload_n C dX11_tellNumbers_12 rfl rfl ?_
  obtain ⟨i3, h⟩ := h
  obtain ⟨S4, eS4, h⟩ := wkLt_some h
  refine wk_iast C (wf_Witnessworks_told hWS2 (hXS2 _ _ hl0A)).2.1 (wf_Witnessworks_told hWS2 (hXS2 _ _ hl0A)).2.2 i3 eS4.symm dX11_tellNumbers_13 ?_
  have hWS4 : wkWF S4 := by rw [eS4]; exact hWS2
  have hXS4 : wkExt S2 S4 := by rw [eS4]; exact wkExt.rf
  refine wk_aload_n C dX11_tellNumbers_14 rfl rfl ?_
  refine wk_get C huX11_tellNumbers_11 (hXS4 _ _ (hXS2 _ _ hl0A)).1 (fun cy => wAt_11 cy _ (hXS4 _ _ (hXS2 _ _ hl0A)).2) rfl 4 (by decide) (List.mem_of_getElem? (i := 1) rfl) rfl (congrArg some (congrArg va_rf (wf_Witnessworks_told hWS4 (hXS4 _ _ (hXS2 _ _ hl0A))).1)) dX11_tellNumbers_15 ?_
  refine wk_iconst C (v := 2) dX11_tellNumbers_18 (by decide) ?_
  refine wk_iload_n C dX11_tellNumbers_19 rfl rfl ?_
  obtain ⟨i5, h⟩ := h
  obtain ⟨S6, eS6, h⟩ := wkLt_some h
  refine wk_iast C (wf_Witnessworks_told hWS4 (hXS4 _ _ (hXS2 _ _ hl0A))).2.1 (wf_Witnessworks_told hWS4 (hXS4 _ _ (hXS2 _ _ hl0A))).2.2 i5 eS6.symm dX11_tellNumbers_20 ?_
  have hWS6 : wkWF S6 := by rw [eS6]; exact hWS4
  have hXS6 : wkExt S4 S6 := by rw [eS6]; exact wkExt.rf
  refine wk_aload_n C dX11_tellNumbers_21 rfl rfl ?_
  refine wk_get C huX11_tellNumbers_11 (hXS6 _ _ (hXS4 _ _ (hXS2 _ _ hl0A))).1 (fun cy => wAt_11 cy _ (hXS6 _ _ (hXS4 _ _ (hXS2 _ _ hl0A))).2) rfl 4 (by decide) (List.mem_of_getElem? (i := 1) rfl) rfl (congrArg some (congrArg va_rf (wf_Witnessworks_told hWS6 (hXS6 _ _ (hXS4 _ _ (hXS2 _ _ hl0A)))).1)) dX11_tellNumbers_22 ?_
  refine wk_iconst C (v := 3) dX11_tellNumbers_25 (by decide) ?_
  refine wk_iload C dX11_tellNumbers_26 rfl ?_
  obtain ⟨i7, h⟩ := h
  obtain ⟨S8, eS8, h⟩ := wkLt_some h
  refine wk_iast C (wf_Witnessworks_told hWS6 (hXS6 _ _ (hXS4 _ _ (hXS2 _ _ hl0A)))).2.1 (wf_Witnessworks_told hWS6 (hXS6 _ _ (hXS4 _ _ (hXS2 _ _ hl0A)))).2.2 i7 eS8.symm dX11_tellNumbers_28 ?_
  have hWS8 : wkWF S8 := by rw [eS8]; exact hWS6
  have hXS8 : wkExt S6 S8 := by rw [eS8]; exact wkExt.rf
  refine wk_aload_n C dX11_tellNumbers_29 rfl rfl ?_
  refine wk_get C huX11_tellNumbers_11 (hXS8 _ _ (hXS6 _ _ (hXS4 _ _ (hXS2 _ _ hl0A)))).1 (fun cy => wAt_11 cy _ (hXS8 _ _ (hXS6 _ _ (hXS4 _ _ (hXS2 _ _ hl0A)))).2) rfl 4 (by decide) (List.mem_of_getElem? (i := 1) rfl) rfl (congrArg some (congrArg va_rf (wf_Witnessworks_told hWS8 (hXS8 _ _ (hXS6 _ _ (hXS4 _ _ (hXS2 _ _ hl0A))))).1)) dX11_tellNumbers_30 ?_
  refine wk_iconst C (v := 4) dX11_tellNumbers_33 (by decide) ?_
  refine wk_iload C dX11_tellNumbers_34 rfl ?_
  obtain ⟨i9, h⟩ := h
  obtain ⟨S10, eS10, h⟩ := wkLt_some h
  refine wk_iast C (wf_Witnessworks_told hWS8 (hXS8 _ _ (hXS6 _ _ (hXS4 _ _ (hXS2 _ _ hl0A))))).2.1 (wf_Witnessworks_told hWS8 (hXS8 _ _ (hXS6 _ _ (hXS4 _ _ (hXS2 _ _ hl0A))))).2.2 i9 eS10.symm dX11_tellNumbers_36 ?_
  have hWS10 : wkWF S10 := by rw [eS10]; exact hWS8
  have hXS10 : wkExt S8 S10 := by rw [eS10]; exact wkExt.rf
  exact E _ _ _ _ _ (Nat.le_refl 0) (Nat.le_refl 0) dX11_tellNumbers_37 ⟨(), rfl, h, hWS10, (wkExt.tr (wkExt.tr (wkExt.tr (wkExt.tr (wkExt.tr hE hXS2) hXS4) hXS6) hXS8) hXS10)⟩
