def wvX3_copyQuestion : List Cond := .code yX3_copyQuestion cX3_copyQuestion 2 none :: (([.fieldLink RX3 39 "Witnessworks$Entry" "kind" "I", .fieldLink RX3 42 "Witnessworks$Entry" "size" "I", .fieldLink RX3 45 "Witnessworks$Entry" "bound" "I", .fieldLink RX3 9 "Witnessworks$Entry" "leaning" "I", .fieldLink RX3 51 "Witnessworks$Entry" "plus" "I", .fieldLink RX3 15 "Witnessworks$Entry" "origin" "I", .fieldLink RX3 54 "Witnessworks$Entry" "itemCount" "I", .fieldLink RX3 18 "Witnessworks$Entry" "numbers" "[I", .methodLink RX3 64 arraycopyName, .native arraycopyName, .static arraycopyName, .initialized "java/lang/System"] : List Cond) ++ ((wsX30) ++ ([])))
theorem huX3_copyQuestion_3 : ∀ w ∈ u_ws RX3 TX3 17, w ∈ wvX3_copyQuestion := fun w h => List.mem_cons_of_mem _ (List.mem_append_right _ (List.mem_append_left _ h))
theorem gdX3_copyQuestion : ∀ w ∈ wvX3_copyQuestion, wkGd w := wkGdC rfl (wkGdA (wkGdL (by decide +kernel)) (wkGdA gdX3 (fun _ h => absurd h List.not_mem_nil)))
def rX3_copyQuestion (F : Nat) (l0A : Nat) (l1A : Nat) (S : wPS) (Φ : (Unit → wPS → Prop)) : Prop :=
  wkLt (wu_Entry_kind S l0A (gEntry_kind S l1A)) fun S1 => wkLt (wu_Entry_size S1 l0A (gEntry_size S1 l1A)) fun S2 => wkLt (wu_Entry_bound S2 l0A (gEntry_bound S2 l1A)) fun S3 => wkLt (wu_Entry_leaning S3 l0A (gEntry_leaning S3 l1A)) fun S4 => wkLt (wu_Entry_plus S4 l0A (gEntry_plus S4 l1A)) fun S5 => wkLt (wu_Entry_origin S5 l0A (gEntry_origin S5 l1A)) fun S6 => wkLt (wu_Entry_itemCount S6 l0A (gEntry_itemCount S6 l1A)) fun S7 => ¬ (0 : Int32) < 0 ∧ ¬ (0 : Int32) < 0 ∧ ¬ (80 : Int32) < 0 ∧ ((0 : Int32)).toNatClampNeg + ((80 : Int32)).toNatClampNeg ≤ S7.len (wkAd (gEntry_numbers S7 l1A)) ∧ ((0 : Int32)).toNatClampNeg + ((80 : Int32)).toNatClampNeg ≤ S7.len (wkAd (gEntry_numbers S7 l0A)) ∧ wkLt (wuRI S7 (wkAd (gEntry_numbers S7 l0A)) (va_cpy (S7.rI (wkAd (gEntry_numbers S7 l1A))) (S7.rI (wkAd (gEntry_numbers S7 l0A))) ((0 : Int32)).toNatClampNeg ((0 : Int32)).toNatClampNeg ((80 : Int32)).toNatClampNeg)) fun S9 => Φ () S9
set_option maxHeartbeats 4000000 in
set_option maxRecDepth 100000 in
theorem tX3_copyQuestion {l : Launch} {g : wkG} {F : Nat}  {S : wPS} {l0A : Nat} {l1A : Nat} {Φ : (Unit → wPS → Prop)} (hW : wkWF S) (hl0A : wkIs S l0A 3) (hl1A : wkIs S l1A 3) (h : rX3_copyQuestion F l0A l1A S Φ) : wkMet l g yX3_copyQuestion wvX3_copyQuestion 1 0 0 [.ref l0A, .ref l1A] S (fun v' S'' => ∃ v : Unit, v' = none ∧ Φ v S'' ∧ wkWF S'' ∧ wkExt S S'') := by
  refine wkMet_of (ret := none) (by decide) rfl (Nat.le_of_ble_eq_true rfl) (fun X hg C hR E => ?_)
  subst hg
  have hE : wkExt S S := wkExt.rf
  have hd : 1 ≤ 1 := Nat.le_refl _
  show wkGo l X 2 0 0 0 S [some (.ref l0A), some (.ref l1A)] []
  unfold rX3_copyQuestion at h
  refine wk_aload_n C dX3_copyQuestion_0 rfl rfl ?_
  refine wk_aload_n C dX3_copyQuestion_1 rfl rfl ?_
  refine wk_get C (v := .int (gEntry_kind S l1A)) huX3_copyQuestion_3 hl1A.1 (fun cy => wAt_3 cy _ hl1A.2) rfl 0 (by decide) (List.mem_of_getElem? (i := 1) rfl) rfl rfl dX3_copyQuestion_2 ?_
  obtain ⟨S1, eS1, h⟩ := wkLt_some h
  refine wk_put C (S' := S1) huX3_copyQuestion_3 hl0A.1 (fun cy => wAt_3 cy _ hl0A.2) rfl 0 (by decide) (List.mem_of_getElem? (i := 1) rfl) rfl tyX3_ok nmX3 rfl (ty := .int) rfl rfl rfl (by show 0 < 17; decide) (fun cy b => by rw [eS1]; exact wSt_3_0 cy _ hl0A.2 _ b) (by rw [eS1]) dX3_copyQuestion_5 ?_
  have hWS1 : wkWF S1 := by rw [eS1]; exact hW
  have hXS1 : wkExt S S1 := by rw [eS1]; exact wkExt.rf
  refine wk_aload_n C dX3_copyQuestion_8 rfl rfl ?_
  refine wk_aload_n C dX3_copyQuestion_9 rfl rfl ?_
  refine wk_get C (v := .int (gEntry_size S1 l1A)) huX3_copyQuestion_3 (hXS1 _ _ hl1A).1 (fun cy => wAt_3 cy _ (hXS1 _ _ hl1A).2) rfl 1 (by decide) (List.mem_of_getElem? (i := 2) rfl) rfl rfl dX3_copyQuestion_10 ?_
  obtain ⟨S2, eS2, h⟩ := wkLt_some h
  refine wk_put C (S' := S2) huX3_copyQuestion_3 (hXS1 _ _ hl0A).1 (fun cy => wAt_3 cy _ (hXS1 _ _ hl0A).2) rfl 1 (by decide) (List.mem_of_getElem? (i := 2) rfl) rfl tyX3_ok nmX3 rfl (ty := .int) rfl rfl rfl (by show 1 < 17; decide) (fun cy b => by rw [eS2]; exact wSt_3_1 cy _ (hXS1 _ _ hl0A).2 _ b) (by rw [eS2]) dX3_copyQuestion_13 ?_
  have hWS2 : wkWF S2 := by rw [eS2]; exact hWS1
  have hXS2 : wkExt S1 S2 := by rw [eS2]; exact wkExt.rf
  refine wk_aload_n C dX3_copyQuestion_16 rfl rfl ?_
  refine wk_aload_n C dX3_copyQuestion_17 rfl rfl ?_
  refine wk_get C (v := .int (gEntry_bound S2 l1A)) huX3_copyQuestion_3 (hXS2 _ _ (hXS1 _ _ hl1A)).1 (fun cy => wAt_3 cy _ (hXS2 _ _ (hXS1 _ _ hl1A)).2) rfl 2 (by decide) (List.mem_of_getElem? (i := 3) rfl) rfl rfl dX3_copyQuestion_18 ?_
  obtain ⟨S3, eS3, h⟩ := wkLt_some h
  refine wk_put C (S' := S3) huX3_copyQuestion_3 (hXS2 _ _ (hXS1 _ _ hl0A)).1 (fun cy => wAt_3 cy _ (hXS2 _ _ (hXS1 _ _ hl0A)).2) rfl 2 (by decide) (List.mem_of_getElem? (i := 3) rfl) rfl tyX3_ok nmX3 rfl (ty := .int) rfl rfl rfl (by show 2 < 17; decide) (fun cy b => by rw [eS3]; exact wSt_3_2 cy _ (hXS2 _ _ (hXS1 _ _ hl0A)).2 _ b) (by rw [eS3]) dX3_copyQuestion_21 ?_
  have hWS3 : wkWF S3 := by rw [eS3]; exact hWS2
  have hXS3 : wkExt S2 S3 := by rw [eS3]; exact wkExt.rf
  refine wk_aload_n C dX3_copyQuestion_24 rfl rfl ?_
  refine wk_aload_n C dX3_copyQuestion_25 rfl rfl ?_
  refine wk_get C (v := .int (gEntry_leaning S3 l1A)) huX3_copyQuestion_3 (hXS3 _ _ (hXS2 _ _ (hXS1 _ _ hl1A))).1 (fun cy => wAt_3 cy _ (hXS3 _ _ (hXS2 _ _ (hXS1 _ _ hl1A))).2) rfl 3 (by decide) (List.mem_of_getElem? (i := 4) rfl) rfl rfl dX3_copyQuestion_26 ?_
  obtain ⟨S4, eS4, h⟩ := wkLt_some h
  refine wk_put C (S' := S4) huX3_copyQuestion_3 (hXS3 _ _ (hXS2 _ _ (hXS1 _ _ hl0A))).1 (fun cy => wAt_3 cy _ (hXS3 _ _ (hXS2 _ _ (hXS1 _ _ hl0A))).2) rfl 3 (by decide) (List.mem_of_getElem? (i := 4) rfl) rfl tyX3_ok nmX3 rfl (ty := .int) rfl rfl rfl (by show 3 < 17; decide) (fun cy b => by rw [eS4]; exact wSt_3_3 cy _ (hXS3 _ _ (hXS2 _ _ (hXS1 _ _ hl0A))).2 _ b) (by rw [eS4]) dX3_copyQuestion_29 ?_
  have hWS4 : wkWF S4 := by rw [eS4]; exact hWS3
  have hXS4 : wkExt S3 S4 := by rw [eS4]; exact wkExt.rf
  refine wk_aload_n C dX3_copyQuestion_32 rfl rfl ?_
  refine wk_aload_n C dX3_copyQuestion_33 rfl rfl ?_
  refine wk_get C (v := .int (gEntry_plus S4 l1A)) huX3_copyQuestion_3 (hXS4 _ _ (hXS3 _ _ (hXS2 _ _ (hXS1 _ _ hl1A)))).1 (fun cy => wAt_3 cy _ (hXS4 _ _ (hXS3 _ _ (hXS2 _ _ (hXS1 _ _ hl1A)))).2) rfl 4 (by decide) (List.mem_of_getElem? (i := 5) rfl) rfl rfl dX3_copyQuestion_34 ?_
  obtain ⟨S5, eS5, h⟩ := wkLt_some h
  refine wk_put C (S' := S5) huX3_copyQuestion_3 (hXS4 _ _ (hXS3 _ _ (hXS2 _ _ (hXS1 _ _ hl0A)))).1 (fun cy => wAt_3 cy _ (hXS4 _ _ (hXS3 _ _ (hXS2 _ _ (hXS1 _ _ hl0A)))).2) rfl 4 (by decide) (List.mem_of_getElem? (i := 5) rfl) rfl tyX3_ok nmX3 rfl (ty := .int) rfl rfl rfl (by show 4 < 17; decide) (fun cy b => by rw [eS5]; exact wSt_3_4 cy _ (hXS4 _ _ (hXS3 _ _ (hXS2 _ _ (hXS1 _ _ hl0A)))).2 _ b) (by rw [eS5]) dX3_copyQuestion_37 ?_
  have hWS5 : wkWF S5 := by rw [eS5]; exact hWS4
  have hXS5 : wkExt S4 S5 := by rw [eS5]; exact wkExt.rf
  refine wk_aload_n C dX3_copyQuestion_40 rfl rfl ?_
  refine wk_aload_n C dX3_copyQuestion_41 rfl rfl ?_
  refine wk_get C (v := .int (gEntry_origin S5 l1A)) huX3_copyQuestion_3 (hXS5 _ _ (hXS4 _ _ (hXS3 _ _ (hXS2 _ _ (hXS1 _ _ hl1A))))).1 (fun cy => wAt_3 cy _ (hXS5 _ _ (hXS4 _ _ (hXS3 _ _ (hXS2 _ _ (hXS1 _ _ hl1A))))).2) rfl 5 (by decide) (List.mem_of_getElem? (i := 6) rfl) rfl rfl dX3_copyQuestion_42 ?_
  obtain ⟨S6, eS6, h⟩ := wkLt_some h
  refine wk_put C (S' := S6) huX3_copyQuestion_3 (hXS5 _ _ (hXS4 _ _ (hXS3 _ _ (hXS2 _ _ (hXS1 _ _ hl0A))))).1 (fun cy => wAt_3 cy _ (hXS5 _ _ (hXS4 _ _ (hXS3 _ _ (hXS2 _ _ (hXS1 _ _ hl0A))))).2) rfl 5 (by decide) (List.mem_of_getElem? (i := 6) rfl) rfl tyX3_ok nmX3 rfl (ty := .int) rfl rfl rfl (by show 5 < 17; decide) (fun cy b => by rw [eS6]; exact wSt_3_5 cy _ (hXS5 _ _ (hXS4 _ _ (hXS3 _ _ (hXS2 _ _ (hXS1 _ _ hl0A))))).2 _ b) (by rw [eS6]) dX3_copyQuestion_45 ?_
  have hWS6 : wkWF S6 := by rw [eS6]; exact hWS5
  have hXS6 : wkExt S5 S6 := by rw [eS6]; exact wkExt.rf
  refine wk_aload_n C dX3_copyQuestion_48 rfl rfl ?_
  refine wk_aload_n C dX3_copyQuestion_49 rfl rfl ?_
  refine wk_get C (v := .int (gEntry_itemCount S6 l1A)) huX3_copyQuestion_3 (hXS6 _ _ (hXS5 _ _ (hXS4 _ _ (hXS3 _ _ (hXS2 _ _ (hXS1 _ _ hl1A)))))).1 (fun cy => wAt_3 cy _ (hXS6 _ _ (hXS5 _ _ (hXS4 _ _ (hXS3 _ _ (hXS2 _ _ (hXS1 _ _ hl1A)))))).2) rfl 6 (by decide) (List.mem_of_getElem? (i := 7) rfl) rfl rfl dX3_copyQuestion_50 ?_
  obtain ⟨S7, eS7, h⟩ := wkLt_some h
  refine wk_put C (S' := S7) huX3_copyQuestion_3 (hXS6 _ _ (hXS5 _ _ (hXS4 _ _ (hXS3 _ _ (hXS2 _ _ (hXS1 _ _ hl0A)))))).1 (fun cy => wAt_3 cy _ (hXS6 _ _ (hXS5 _ _ (hXS4 _ _ (hXS3 _ _ (hXS2 _ _ (hXS1 _ _ hl0A)))))).2) rfl 6 (by decide) (List.mem_of_getElem? (i := 7) rfl) rfl tyX3_ok nmX3 rfl (ty := .int) rfl rfl rfl (by show 6 < 17; decide) (fun cy b => by rw [eS7]; exact wSt_3_6 cy _ (hXS6 _ _ (hXS5 _ _ (hXS4 _ _ (hXS3 _ _ (hXS2 _ _ (hXS1 _ _ hl0A)))))).2 _ b) (by rw [eS7]) dX3_copyQuestion_53 ?_
  have hWS7 : wkWF S7 := by rw [eS7]; exact hWS6
  have hXS7 : wkExt S6 S7 := by rw [eS7]; exact wkExt.rf
  refine wk_aload_n C dX3_copyQuestion_56 rfl rfl ?_
  refine wk_get C huX3_copyQuestion_3 (hXS7 _ _ (hXS6 _ _ (hXS5 _ _ (hXS4 _ _ (hXS3 _ _ (hXS2 _ _ (hXS1 _ _ hl1A))))))).1 (fun cy => wAt_3 cy _ (hXS7 _ _ (hXS6 _ _ (hXS5 _ _ (hXS4 _ _ (hXS3 _ _ (hXS2 _ _ (hXS1 _ _ hl1A))))))).2) rfl 7 (by decide) (List.mem_of_getElem? (i := 8) rfl) rfl (congrArg some (congrArg va_rf (wf_Entry_numbers hWS7 (hXS7 _ _ (hXS6 _ _ (hXS5 _ _ (hXS4 _ _ (hXS3 _ _ (hXS2 _ _ (hXS1 _ _ hl1A)))))))).1)) dX3_copyQuestion_57 ?_
  refine wk_iconst C (v := 0) dX3_copyQuestion_60 (by decide) ?_
  refine wk_aload_n C dX3_copyQuestion_61 rfl rfl ?_
  refine wk_get C huX3_copyQuestion_3 (hXS7 _ _ (hXS6 _ _ (hXS5 _ _ (hXS4 _ _ (hXS3 _ _ (hXS2 _ _ (hXS1 _ _ hl0A))))))).1 (fun cy => wAt_3 cy _ (hXS7 _ _ (hXS6 _ _ (hXS5 _ _ (hXS4 _ _ (hXS3 _ _ (hXS2 _ _ (hXS1 _ _ hl0A))))))).2) rfl 7 (by decide) (List.mem_of_getElem? (i := 8) rfl) rfl (congrArg some (congrArg va_rf (wf_Entry_numbers hWS7 (hXS7 _ _ (hXS6 _ _ (hXS5 _ _ (hXS4 _ _ (hXS3 _ _ (hXS2 _ _ (hXS1 _ _ hl0A)))))))).1)) dX3_copyQuestion_62 ?_
  refine wk_iconst C (v := 0) dX3_copyQuestion_65 (by decide) ?_
  refine wk_bipush C (v := 80) dX3_copyQuestion_66 (by decide) ?_
  obtain ⟨y8a, y8b, y8c, y8d, y8e, h⟩ := h
  obtain ⟨S9, eS9, h⟩ := wkLt_some h
  refine wk_copyI C hR (List.mem_of_getElem? (i := 9) rfl) (List.mem_of_getElem? (i := 10) rfl) (List.mem_of_getElem? (i := 11) rfl) (List.mem_of_getElem? (i := 12) rfl) (Nat.le_trans (by decide) hd) (wf_Entry_numbers hWS7 (hXS7 _ _ (hXS6 _ _ (hXS5 _ _ (hXS4 _ _ (hXS3 _ _ (hXS2 _ _ (hXS1 _ _ hl1A)))))))).2.1 (wf_Entry_numbers hWS7 (hXS7 _ _ (hXS6 _ _ (hXS5 _ _ (hXS4 _ _ (hXS3 _ _ (hXS2 _ _ (hXS1 _ _ hl1A)))))))).2.2 (wf_Entry_numbers hWS7 (hXS7 _ _ (hXS6 _ _ (hXS5 _ _ (hXS4 _ _ (hXS3 _ _ (hXS2 _ _ (hXS1 _ _ hl0A)))))))).2.1 (wf_Entry_numbers hWS7 (hXS7 _ _ (hXS6 _ _ (hXS5 _ _ (hXS4 _ _ (hXS3 _ _ (hXS2 _ _ (hXS1 _ _ hl0A)))))))).2.2 y8a y8b y8c y8d y8e (Nat.le_of_ble_eq_true rfl) eS9.symm dX3_copyQuestion_68 ?_
  have hWS9 : wkWF S9 := by rw [eS9]; exact hWS7
  have hXS9 : wkExt S7 S9 := by rw [eS9]; exact wkExt.rf
  exact E _ _ _ _ _ (Nat.le_refl 0) (Nat.le_refl 0) dX3_copyQuestion_71 ⟨(), rfl, h, hWS9, (wkExt.tr (wkExt.tr (wkExt.tr (wkExt.tr (wkExt.tr (wkExt.tr (wkExt.tr (wkExt.tr hE hXS1) hXS2) hXS3) hXS4) hXS5) hXS6) hXS7) hXS9)⟩
def wvX3_at : List Cond := .code yX3_at cX3_at 4 (some .int) :: (([.fieldLink RX3 54 "Witnessworks$Entry" "itemCount" "I", .fieldLink RX3 18 "Witnessworks$Entry" "numbers" "[I"] : List Cond) ++ ((wsX30) ++ ([])))
theorem huX3_at_3 : ∀ w ∈ u_ws RX3 TX3 17, w ∈ wvX3_at := fun w h => List.mem_cons_of_mem _ (List.mem_append_right _ (List.mem_append_left _ h))
theorem gdX3_at : ∀ w ∈ wvX3_at, wkGd w := wkGdC rfl (wkGdA (wkGdL (by decide +kernel)) (wkGdA gdX3 (fun _ h => absurd h List.not_mem_nil)))
def rX3_at (F : Nat) (l0A : Nat) (l1I : Int32) (l2I : Int32) (S : wPS) (Φ : (Int32 → wPS → Prop)) : Prop :=
  wkLt (((l1I * (5 : Int32)) + l2I)) fun x1 => if l1I < 0 then (Φ (0 : Int32) S) else (if (gEntry_itemCount S l0A) ≤ l1I then (Φ (0 : Int32) S) else (if (80 : Int32) ≤ x1 then (Φ (0 : Int32) S) else (¬ (x1 < 0 ∨ S.len (wkAd (gEntry_numbers S l0A)) ≤ (x1).toNatClampNeg) ∧ Φ (S.rI (wkAd (gEntry_numbers S l0A)) (x1).toNatClampNeg) S)))
set_option maxHeartbeats 4000000 in
set_option maxRecDepth 100000 in
theorem tX3_at {l : Launch} {g : wkG} {F : Nat}  {S : wPS} {l0A : Nat} {l1I : Int32} {l2I : Int32} {Φ : (Int32 → wPS → Prop)} (hW : wkWF S) (hl0A : wkIs S l0A 3) (h : rX3_at F l0A l1I l2I S Φ) : wkMet l g yX3_at wvX3_at 0 0 0 [.ref l0A, .int l1I, .int l2I] S (fun v' S'' => ∃ v : Int32, v' = some (.int v) ∧ Φ v S'' ∧ wkWF S'' ∧ wkExt S S'') := by
  refine wkMet_of (ret := (some .int)) (by decide) rfl (Nat.le_of_ble_eq_true rfl) (fun X hg C hR E => ?_)
  subst hg
  have hE : wkExt S S := wkExt.rf
  have hd : 0 ≤ 0 := Nat.le_refl _
  show wkGo l X 4 0 0 0 S [some (.ref l0A), some (.int l1I), some (.int l2I), none] []
  unfold rX3_at at h
  refine wk_iload_n C dX3_at_0 rfl rfl ?_
  refine wk_iconst C (v := 5) dX3_at_1 (by decide) ?_
  refine wk_imul C dX3_at_2 rfl ?_
  refine wk_iload_n C dX3_at_3 rfl rfl ?_
  refine wk_iadd C dX3_at_4 rfl ?_
  obtain ⟨x1, ex1, h⟩ := wkLt_some h
  refine wk_topi ex1 ?_
  refine wk_istore_n C (lv' := [some (.ref l0A), some (.int l1I), some (.int l2I), some (.int x1)]) dX3_at_5 rfl (by decide) rfl ?_
  refine wk_iload_n C dX3_at_6 rfl rfl ?_
  refine wk_if_lt C (tgt := 33) dX3_at_7 (by decide) (fun c2 => ?_) (fun c2 => ?_)
  · rw [if_pos c2] at h
    refine wk_iconst C (v := 0) dX3_at_33 (by decide) ?_
    exact E _ _ _ _ _ _ (Nat.le_refl 0) (Nat.le_refl 0) dX3_at_34 ⟨(0 : Int32), rfl, h, hW, hE⟩
  · rw [if_neg c2] at h
    refine wk_iload_n C dX3_at_10 rfl rfl ?_
    refine wk_aload_n C dX3_at_11 rfl rfl ?_
    refine wk_get C (v := .int (gEntry_itemCount S l0A)) huX3_at_3 hl0A.1 (fun cy => wAt_3 cy _ hl0A.2) rfl 6 (by decide) (List.mem_of_getElem? (i := 1) rfl) rfl rfl dX3_at_12 ?_
    refine wk_icmp_ge C (tgt := 33) dX3_at_15 (by decide) (fun c3 => ?_) (fun c3 => ?_)
    · rw [if_pos c3] at h
      refine wk_iconst C (v := 0) dX3_at_33 (by decide) ?_
      exact E _ _ _ _ _ _ (Nat.le_refl 0) (Nat.le_refl 0) dX3_at_34 ⟨(0 : Int32), rfl, h, hW, hE⟩
    · rw [if_neg c3] at h
      refine wk_iload_n C dX3_at_18 rfl rfl ?_
      refine wk_bipush C (v := 80) dX3_at_19 (by decide) ?_
      refine wk_icmp_ge C (tgt := 33) dX3_at_21 (by decide) (fun c4 => ?_) (fun c4 => ?_)
      · rw [if_pos c4] at h
        refine wk_iconst C (v := 0) dX3_at_33 (by decide) ?_
        exact E _ _ _ _ _ _ (Nat.le_refl 0) (Nat.le_refl 0) dX3_at_34 ⟨(0 : Int32), rfl, h, hW, hE⟩
      · rw [if_neg c4] at h
        refine wk_aload_n C dX3_at_24 rfl rfl ?_
        refine wk_get C huX3_at_3 hl0A.1 (fun cy => wAt_3 cy _ hl0A.2) rfl 7 (by decide) (List.mem_of_getElem? (i := 2) rfl) rfl (congrArg some (congrArg va_rf (wf_Entry_numbers hW hl0A).1)) dX3_at_25 ?_
        refine wk_iload_n C dX3_at_28 rfl rfl ?_
        obtain ⟨i5, h⟩ := h
        refine wk_iald C (wf_Entry_numbers hW hl0A).2.1 (wf_Entry_numbers hW hl0A).2.2 i5 rfl dX3_at_29 ?_
        refine wk_goto C (tgt := 34) dX3_at_30 (by decide) ?_
        exact E _ _ _ _ _ _ (Nat.le_refl 0) (Nat.le_refl 0) dX3_at_34 ⟨(S.rI (wkAd (gEntry_numbers S l0A)) (x1).toNatClampNeg), rfl, h, hW, hE⟩
def wvX3_setItem : List Cond := .code yX3_setItem cX3_setItem 3 none :: (([.fieldLink RX3 18 "Witnessworks$Entry" "numbers" "[I", .methodLink RX3 64 arraycopyName, .native arraycopyName, .static arraycopyName, .initialized "java/lang/System"] : List Cond) ++ ((wsX30) ++ ([])))
theorem huX3_setItem_3 : ∀ w ∈ u_ws RX3 TX3 17, w ∈ wvX3_setItem := fun w h => List.mem_cons_of_mem _ (List.mem_append_right _ (List.mem_append_left _ h))
theorem gdX3_setItem : ∀ w ∈ wvX3_setItem, wkGd w := wkGdC rfl (wkGdA (wkGdL (by decide +kernel)) (wkGdA gdX3 (fun _ h => absurd h List.not_mem_nil)))
def rX3_setItem (F : Nat) (l0A : Nat) (l1I : Int32) (l2A : Nat) (S : wPS) (Φ : (Unit → wPS → Prop)) : Prop :=
  if l1I < 0 then (Φ () S) else (if (80 : Int32) < ((l1I + (1 : Int32)) * (5 : Int32)) then (Φ () S) else (¬ (0 : Int32) < 0 ∧ ¬ (l1I * (5 : Int32)) < 0 ∧ ¬ (5 : Int32) < 0 ∧ ((0 : Int32)).toNatClampNeg + ((5 : Int32)).toNatClampNeg ≤ S.len l2A ∧ ((l1I * (5 : Int32))).toNatClampNeg + ((5 : Int32)).toNatClampNeg ≤ S.len (wkAd (gEntry_numbers S l0A)) ∧ wkLt (wuRI S (wkAd (gEntry_numbers S l0A)) (va_cpy (S.rI l2A) (S.rI (wkAd (gEntry_numbers S l0A))) ((0 : Int32)).toNatClampNeg ((l1I * (5 : Int32))).toNatClampNeg ((5 : Int32)).toNatClampNeg)) fun S4 => Φ () S4))
set_option maxHeartbeats 4000000 in
set_option maxRecDepth 100000 in
theorem tX3_setItem {l : Launch} {g : wkG} {F : Nat}  {S : wPS} {l0A : Nat} {l1I : Int32} {l2A : Nat} {Φ : (Unit → wPS → Prop)} (hW : wkWF S) (hl0A : wkIs S l0A 3) (hl2A : wkIs S l2A 13) (h : rX3_setItem F l0A l1I l2A S Φ) : wkMet l g yX3_setItem wvX3_setItem 1 0 0 [.ref l0A, .int l1I, .ref l2A] S (fun v' S'' => ∃ v : Unit, v' = none ∧ Φ v S'' ∧ wkWF S'' ∧ wkExt S S'') := by
  refine wkMet_of (ret := none) (by decide) rfl (Nat.le_of_ble_eq_true rfl) (fun X hg C hR E => ?_)
  subst hg
  have hE : wkExt S S := wkExt.rf
  have hd : 1 ≤ 1 := Nat.le_refl _
  show wkGo l X 3 0 0 0 S [some (.ref l0A), some (.int l1I), some (.ref l2A)] []
  unfold rX3_setItem at h
  refine wk_iload_n C dX3_setItem_0 rfl rfl ?_
  refine wk_if_lt C (tgt := 27) dX3_setItem_1 (by decide) (fun c1 => ?_) (fun c1 => ?_)
  · rw [if_pos c1] at h
    exact E _ _ _ _ _ (Nat.le_refl 0) (Nat.le_refl 0) dX3_setItem_27 ⟨(), rfl, h, hW, hE⟩
  · rw [if_neg c1] at h
    refine wk_iload_n C dX3_setItem_4 rfl rfl ?_
    refine wk_iconst C (v := 1) dX3_setItem_5 (by decide) ?_
    refine wk_iadd C dX3_setItem_6 rfl ?_
    refine wk_iconst C (v := 5) dX3_setItem_7 (by decide) ?_
    refine wk_imul C dX3_setItem_8 rfl ?_
    refine wk_bipush C (v := 80) dX3_setItem_9 (by decide) ?_
    refine wk_icmp_gt C (tgt := 27) dX3_setItem_11 (by decide) (fun c2 => ?_) (fun c2 => ?_)
    · rw [if_pos c2] at h
      exact E _ _ _ _ _ (Nat.le_refl 0) (Nat.le_refl 0) dX3_setItem_27 ⟨(), rfl, h, hW, hE⟩
    · rw [if_neg c2] at h
      refine wk_aload_n C dX3_setItem_14 rfl rfl ?_
      refine wk_iconst C (v := 0) dX3_setItem_15 (by decide) ?_
      refine wk_aload_n C dX3_setItem_16 rfl rfl ?_
      refine wk_get C huX3_setItem_3 hl0A.1 (fun cy => wAt_3 cy _ hl0A.2) rfl 7 (by decide) (List.mem_of_getElem? (i := 1) rfl) rfl (congrArg some (congrArg va_rf (wf_Entry_numbers hW hl0A).1)) dX3_setItem_17 ?_
      refine wk_iload_n C dX3_setItem_20 rfl rfl ?_
      refine wk_iconst C (v := 5) dX3_setItem_21 (by decide) ?_
      refine wk_imul C dX3_setItem_22 rfl ?_
      refine wk_iconst C (v := 5) dX3_setItem_23 (by decide) ?_
      obtain ⟨y3a, y3b, y3c, y3d, y3e, h⟩ := h
      obtain ⟨S4, eS4, h⟩ := wkLt_some h
      refine wk_copyI C hR (List.mem_of_getElem? (i := 2) rfl) (List.mem_of_getElem? (i := 3) rfl) (List.mem_of_getElem? (i := 4) rfl) (List.mem_of_getElem? (i := 5) rfl) (Nat.le_trans (by decide) hd) hl2A.1 hl2A.2 (wf_Entry_numbers hW hl0A).2.1 (wf_Entry_numbers hW hl0A).2.2 y3a y3b y3c y3d y3e (Nat.le_of_ble_eq_true rfl) eS4.symm dX3_setItem_24 ?_
      have hWS4 : wkWF S4 := by rw [eS4]; exact hW
      have hXS4 : wkExt S S4 := by rw [eS4]; exact wkExt.rf
      exact E _ _ _ _ _ (Nat.le_refl 0) (Nat.le_refl 0) dX3_setItem_27 ⟨(), rfl, h, hWS4, (wkExt.tr hE hXS4)⟩
def wvX3_addItem : List Cond := .code yX3_addItem cX3_addItem 5 none :: (([.fieldLink RX3 54 "Witnessworks$Entry" "itemCount" "I", .fieldLink RX3 18 "Witnessworks$Entry" "numbers" "[I"] : List Cond) ++ ((wsX30) ++ ([])))
theorem huX3_addItem_3 : ∀ w ∈ u_ws RX3 TX3 17, w ∈ wvX3_addItem := fun w h => List.mem_cons_of_mem _ (List.mem_append_right _ (List.mem_append_left _ h))
theorem gdX3_addItem : ∀ w ∈ wvX3_addItem, wkGd w := wkGdC rfl (wkGdA (wkGdL (by decide +kernel)) (wkGdA gdX3 (fun _ h => absurd h List.not_mem_nil)))
def rX3_addItem (F : Nat) (l0A : Nat) (l1I : Int32) (l2I : Int32) (l3I : Int32) (S : wPS) (Φ : (Unit → wPS → Prop)) : Prop :=
  wkLt (((gEntry_itemCount S l0A) * (5 : Int32))) fun x1 => if (80 : Int32) < (x1 + (5 : Int32)) then (Φ () S) else (¬ (x1 < 0 ∨ S.len (wkAd (gEntry_numbers S l0A)) ≤ (x1).toNatClampNeg) ∧ wkLt (wuI S (wkAd (gEntry_numbers S l0A)) x1 l1I) fun S4 => ¬ ((x1 + (1 : Int32)) < 0 ∨ S4.len (wkAd (gEntry_numbers S4 l0A)) ≤ ((x1 + (1 : Int32))).toNatClampNeg) ∧ wkLt (wuI S4 (wkAd (gEntry_numbers S4 l0A)) (x1 + (1 : Int32)) l2I) fun S6 => ¬ ((x1 + (2 : Int32)) < 0 ∨ S6.len (wkAd (gEntry_numbers S6 l0A)) ≤ ((x1 + (2 : Int32))).toNatClampNeg) ∧ wkLt (wuI S6 (wkAd (gEntry_numbers S6 l0A)) (x1 + (2 : Int32)) l3I) fun S8 => ¬ ((x1 + (3 : Int32)) < 0 ∨ S8.len (wkAd (gEntry_numbers S8 l0A)) ≤ ((x1 + (3 : Int32))).toNatClampNeg) ∧ wkLt (wuI S8 (wkAd (gEntry_numbers S8 l0A)) (x1 + (3 : Int32)) (0 : Int32)) fun S10 => ¬ ((x1 + (4 : Int32)) < 0 ∨ S10.len (wkAd (gEntry_numbers S10 l0A)) ≤ ((x1 + (4 : Int32))).toNatClampNeg) ∧ wkLt (wuI S10 (wkAd (gEntry_numbers S10 l0A)) (x1 + (4 : Int32)) (0 : Int32)) fun S12 => wkLt (wu_Entry_itemCount S12 l0A ((gEntry_itemCount S12 l0A) + (1 : Int32))) fun S13 => Φ () S13)
set_option maxHeartbeats 4000000 in
set_option maxRecDepth 100000 in
theorem tX3_addItem {l : Launch} {g : wkG} {F : Nat}  {S : wPS} {l0A : Nat} {l1I : Int32} {l2I : Int32} {l3I : Int32} {Φ : (Unit → wPS → Prop)} (hW : wkWF S) (hl0A : wkIs S l0A 3) (h : rX3_addItem F l0A l1I l2I l3I S Φ) : wkMet l g yX3_addItem wvX3_addItem 0 0 0 [.ref l0A, .int l1I, .int l2I, .int l3I] S (fun v' S'' => ∃ v : Unit, v' = none ∧ Φ v S'' ∧ wkWF S'' ∧ wkExt S S'') := by
  refine wkMet_of (ret := none) (by decide) rfl (Nat.le_of_ble_eq_true rfl) (fun X hg C hR E => ?_)
  subst hg
  have hE : wkExt S S := wkExt.rf
  have hd : 0 ≤ 0 := Nat.le_refl _
  show wkGo l X 5 0 0 0 S [some (.ref l0A), some (.int l1I), some (.int l2I), some (.int l3I), none] []
  unfold rX3_addItem at h
  refine wk_aload_n C dX3_addItem_0 rfl rfl ?_
  refine wk_get C (v := .int (gEntry_itemCount S l0A)) huX3_addItem_3 hl0A.1 (fun cy => wAt_3 cy _ hl0A.2) rfl 6 (by decide) (List.mem_of_getElem? (i := 1) rfl) rfl rfl dX3_addItem_1 ?_
  refine wk_iconst C (v := 5) dX3_addItem_4 (by decide) ?_
  refine wk_imul C dX3_addItem_5 rfl ?_
  obtain ⟨x1, ex1, h⟩ := wkLt_some h
  refine wk_topi ex1 ?_
  refine wk_istore C (lv' := [some (.ref l0A), some (.int l1I), some (.int l2I), some (.int l3I), some (.int x1)]) dX3_addItem_6 (by decide) rfl ?_
  refine wk_iload C dX3_addItem_8 rfl ?_
  refine wk_iconst C (v := 5) dX3_addItem_10 (by decide) ?_
  refine wk_iadd C dX3_addItem_11 rfl ?_
  refine wk_bipush C (v := 80) dX3_addItem_12 (by decide) ?_
  refine wk_icmp_gt C (tgt := 75) dX3_addItem_14 (by decide) (fun c2 => ?_) (fun c2 => ?_)
  · rw [if_pos c2] at h
    exact E _ _ _ _ _ (Nat.le_refl 0) (Nat.le_refl 0) dX3_addItem_75 ⟨(), rfl, h, hW, hE⟩
  · rw [if_neg c2] at h
    refine wk_aload_n C dX3_addItem_17 rfl rfl ?_
    refine wk_get C huX3_addItem_3 hl0A.1 (fun cy => wAt_3 cy _ hl0A.2) rfl 7 (by decide) (List.mem_of_getElem? (i := 2) rfl) rfl (congrArg some (congrArg va_rf (wf_Entry_numbers hW hl0A).1)) dX3_addItem_18 ?_
    refine wk_iload C dX3_addItem_21 rfl ?_
    refine wk_iload_n C dX3_addItem_23 rfl rfl ?_
    obtain ⟨i3, h⟩ := h
    obtain ⟨S4, eS4, h⟩ := wkLt_some h
    refine wk_iast C (wf_Entry_numbers hW hl0A).2.1 (wf_Entry_numbers hW hl0A).2.2 i3 eS4.symm dX3_addItem_24 ?_
    have hWS4 : wkWF S4 := by rw [eS4]; exact hW
    have hXS4 : wkExt S S4 := by rw [eS4]; exact wkExt.rf
    refine wk_aload_n C dX3_addItem_25 rfl rfl ?_
    refine wk_get C huX3_addItem_3 (hXS4 _ _ hl0A).1 (fun cy => wAt_3 cy _ (hXS4 _ _ hl0A).2) rfl 7 (by decide) (List.mem_of_getElem? (i := 2) rfl) rfl (congrArg some (congrArg va_rf (wf_Entry_numbers hWS4 (hXS4 _ _ hl0A)).1)) dX3_addItem_26 ?_
    refine wk_iload C dX3_addItem_29 rfl ?_
    refine wk_iconst C (v := 1) dX3_addItem_31 (by decide) ?_
    refine wk_iadd C dX3_addItem_32 rfl ?_
    refine wk_iload_n C dX3_addItem_33 rfl rfl ?_
    obtain ⟨i5, h⟩ := h
    obtain ⟨S6, eS6, h⟩ := wkLt_some h
    refine wk_iast C (wf_Entry_numbers hWS4 (hXS4 _ _ hl0A)).2.1 (wf_Entry_numbers hWS4 (hXS4 _ _ hl0A)).2.2 i5 eS6.symm dX3_addItem_34 ?_
    have hWS6 : wkWF S6 := by rw [eS6]; exact hWS4
    have hXS6 : wkExt S4 S6 := by rw [eS6]; exact wkExt.rf
    refine wk_aload_n C dX3_addItem_35 rfl rfl ?_
    refine wk_get C huX3_addItem_3 (hXS6 _ _ (hXS4 _ _ hl0A)).1 (fun cy => wAt_3 cy _ (hXS6 _ _ (hXS4 _ _ hl0A)).2) rfl 7 (by decide) (List.mem_of_getElem? (i := 2) rfl) rfl (congrArg some (congrArg va_rf (wf_Entry_numbers hWS6 (hXS6 _ _ (hXS4 _ _ hl0A))).1)) dX3_addItem_36 ?_
    refine wk_iload C dX3_addItem_39 rfl ?_
    refine wk_iconst C (v := 2) dX3_addItem_41 (by decide) ?_
    refine wk_iadd C dX3_addItem_42 rfl ?_
    refine wk_iload_n C dX3_addItem_43 rfl rfl ?_
    obtain ⟨i7, h⟩ := h
    obtain ⟨S8, eS8, h⟩ := wkLt_some h
    refine wk_iast C (wf_Entry_numbers hWS6 (hXS6 _ _ (hXS4 _ _ hl0A))).2.1 (wf_Entry_numbers hWS6 (hXS6 _ _ (hXS4 _ _ hl0A))).2.2 i7 eS8.symm dX3_addItem_44 ?_
    have hWS8 : wkWF S8 := by rw [eS8]; exact hWS6
    have hXS8 : wkExt S6 S8 := by rw [eS8]; exact wkExt.rf
    refine wk_aload_n C dX3_addItem_45 rfl rfl ?_
    refine wk_get C huX3_addItem_3 (hXS8 _ _ (hXS6 _ _ (hXS4 _ _ hl0A))).1 (fun cy => wAt_3 cy _ (hXS8 _ _ (hXS6 _ _ (hXS4 _ _ hl0A))).2) rfl 7 (by decide) (List.mem_of_getElem? (i := 2) rfl) rfl (congrArg some (congrArg va_rf (wf_Entry_numbers hWS8 (hXS8 _ _ (hXS6 _ _ (hXS4 _ _ hl0A)))).1)) dX3_addItem_46 ?_
    refine wk_iload C dX3_addItem_49 rfl ?_
    refine wk_iconst C (v := 3) dX3_addItem_51 (by decide) ?_
    refine wk_iadd C dX3_addItem_52 rfl ?_
    refine wk_iconst C (v := 0) dX3_addItem_53 (by decide) ?_
    obtain ⟨i9, h⟩ := h
    obtain ⟨S10, eS10, h⟩ := wkLt_some h
    refine wk_iast C (wf_Entry_numbers hWS8 (hXS8 _ _ (hXS6 _ _ (hXS4 _ _ hl0A)))).2.1 (wf_Entry_numbers hWS8 (hXS8 _ _ (hXS6 _ _ (hXS4 _ _ hl0A)))).2.2 i9 eS10.symm dX3_addItem_54 ?_
    have hWS10 : wkWF S10 := by rw [eS10]; exact hWS8
    have hXS10 : wkExt S8 S10 := by rw [eS10]; exact wkExt.rf
    refine wk_aload_n C dX3_addItem_55 rfl rfl ?_
    refine wk_get C huX3_addItem_3 (hXS10 _ _ (hXS8 _ _ (hXS6 _ _ (hXS4 _ _ hl0A)))).1 (fun cy => wAt_3 cy _ (hXS10 _ _ (hXS8 _ _ (hXS6 _ _ (hXS4 _ _ hl0A)))).2) rfl 7 (by decide) (List.mem_of_getElem? (i := 2) rfl) rfl (congrArg some (congrArg va_rf (wf_Entry_numbers hWS10 (hXS10 _ _ (hXS8 _ _ (hXS6 _ _ (hXS4 _ _ hl0A))))).1)) dX3_addItem_56 ?_
    refine wk_iload C dX3_addItem_59 rfl ?_
    refine wk_iconst C (v := 4) dX3_addItem_61 (by decide) ?_
    refine wk_iadd C dX3_addItem_62 rfl ?_
    refine wk_iconst C (v := 0) dX3_addItem_63 (by decide) ?_
    obtain ⟨i11, h⟩ := h
    obtain ⟨S12, eS12, h⟩ := wkLt_some h
    refine wk_iast C (wf_Entry_numbers hWS10 (hXS10 _ _ (hXS8 _ _ (hXS6 _ _ (hXS4 _ _ hl0A))))).2.1 (wf_Entry_numbers hWS10 (hXS10 _ _ (hXS8 _ _ (hXS6 _ _ (hXS4 _ _ hl0A))))).2.2 i11 eS12.symm dX3_addItem_64 ?_
    have hWS12 : wkWF S12 := by rw [eS12]; exact hWS10
    have hXS12 : wkExt S10 S12 := by rw [eS12]; exact wkExt.rf
    refine wk_aload_n C dX3_addItem_65 rfl rfl ?_
    refine wk_dup C dX3_addItem_66 rfl ?_
    refine wk_get C (v := .int (gEntry_itemCount S12 l0A)) huX3_addItem_3 (hXS12 _ _ (hXS10 _ _ (hXS8 _ _ (hXS6 _ _ (hXS4 _ _ hl0A))))).1 (fun cy => wAt_3 cy _ (hXS12 _ _ (hXS10 _ _ (hXS8 _ _ (hXS6 _ _ (hXS4 _ _ hl0A))))).2) rfl 6 (by decide) (List.mem_of_getElem? (i := 1) rfl) rfl rfl dX3_addItem_67 ?_
    refine wk_iconst C (v := 1) dX3_addItem_70 (by decide) ?_
    refine wk_iadd C dX3_addItem_71 rfl ?_
    obtain ⟨S13, eS13, h⟩ := wkLt_some h
    refine wk_put C (S' := S13) huX3_addItem_3 (hXS12 _ _ (hXS10 _ _ (hXS8 _ _ (hXS6 _ _ (hXS4 _ _ hl0A))))).1 (fun cy => wAt_3 cy _ (hXS12 _ _ (hXS10 _ _ (hXS8 _ _ (hXS6 _ _ (hXS4 _ _ hl0A))))).2) rfl 6 (by decide) (List.mem_of_getElem? (i := 1) rfl) rfl tyX3_ok nmX3 rfl (ty := .int) rfl rfl rfl (by show 6 < 17; decide) (fun cy b => by rw [eS13]; exact wSt_3_6 cy _ (hXS12 _ _ (hXS10 _ _ (hXS8 _ _ (hXS6 _ _ (hXS4 _ _ hl0A))))).2 _ b) (by rw [eS13]) dX3_addItem_72 ?_
    have hWS13 : wkWF S13 := by rw [eS13]; exact hWS12
    have hXS13 : wkExt S12 S13 := by rw [eS13]; exact wkExt.rf
    exact E _ _ _ _ _ (Nat.le_refl 0) (Nat.le_refl 0) dX3_addItem_75 ⟨(), rfl, h, hWS13, (wkExt.tr (wkExt.tr (wkExt.tr (wkExt.tr (wkExt.tr (wkExt.tr hE hXS4) hXS6) hXS8) hXS10) hXS12) hXS13)⟩
def wvX3_addTo : List Cond := .code yX3_addTo cX3_addTo 5 none :: (([.fieldLink RX3 18 "Witnessworks$Entry" "numbers" "[I"] : List Cond) ++ ((wsX30) ++ ([])))
theorem huX3_addTo_3 : ∀ w ∈ u_ws RX3 TX3 17, w ∈ wvX3_addTo := fun w h => List.mem_cons_of_mem _ (List.mem_append_right _ (List.mem_append_left _ h))
theorem gdX3_addTo : ∀ w ∈ wvX3_addTo, wkGd w := wkGdC rfl (wkGdA (wkGdL (by decide +kernel)) (wkGdA gdX3 (fun _ h => absurd h List.not_mem_nil)))
def rX3_addTo (F : Nat) (l0A : Nat) (l1I : Int32) (l2I : Int32) (l3I : Int32) (S : wPS) (Φ : (Unit → wPS → Prop)) : Prop :=
  wkLt (((l1I * (5 : Int32)) + l2I)) fun x1 => if x1 < 0 then (Φ () S) else (if (80 : Int32) ≤ x1 then (Φ () S) else (¬ (x1 < 0 ∨ S.len (wkAd (gEntry_numbers S l0A)) ≤ (x1).toNatClampNeg) ∧ ¬ (x1 < 0 ∨ S.len (wkAd (gEntry_numbers S l0A)) ≤ (x1).toNatClampNeg) ∧ wkLt (wuI S (wkAd (gEntry_numbers S l0A)) x1 ((S.rI (wkAd (gEntry_numbers S l0A)) (x1).toNatClampNeg) + l3I)) fun S6 => Φ () S6))
set_option maxHeartbeats 4000000 in
set_option maxRecDepth 100000 in
theorem tX3_addTo {l : Launch} {g : wkG} {F : Nat}  {S : wPS} {l0A : Nat} {l1I : Int32} {l2I : Int32} {l3I : Int32} {Φ : (Unit → wPS → Prop)} (hW : wkWF S) (hl0A : wkIs S l0A 3) (h : rX3_addTo F l0A l1I l2I l3I S Φ) : wkMet l g yX3_addTo wvX3_addTo 0 0 0 [.ref l0A, .int l1I, .int l2I, .int l3I] S (fun v' S'' => ∃ v : Unit, v' = none ∧ Φ v S'' ∧ wkWF S'' ∧ wkExt S S'') := by
  refine wkMet_of (ret := none) (by decide) rfl (Nat.le_of_ble_eq_true rfl) (fun X hg C hR E => ?_)
  subst hg
  have hE : wkExt S S := wkExt.rf
  have hd : 0 ≤ 0 := Nat.le_refl _
  show wkGo l X 5 0 0 0 S [some (.ref l0A), some (.int l1I), some (.int l2I), some (.int l3I), none] []
  unfold rX3_addTo at h
  refine wk_iload_n C dX3_addTo_0 rfl rfl ?_
  refine wk_iconst C (v := 5) dX3_addTo_1 (by decide) ?_
  refine wk_imul C dX3_addTo_2 rfl ?_
  refine wk_iload_n C dX3_addTo_3 rfl rfl ?_
  refine wk_iadd C dX3_addTo_4 rfl ?_
  obtain ⟨x1, ex1, h⟩ := wkLt_some h
  refine wk_topi ex1 ?_
  refine wk_istore C (lv' := [some (.ref l0A), some (.int l1I), some (.int l2I), some (.int l3I), some (.int x1)]) dX3_addTo_5 (by decide) rfl ?_
  refine wk_iload C dX3_addTo_7 rfl ?_
  refine wk_if_lt C (tgt := 30) dX3_addTo_9 (by decide) (fun c2 => ?_) (fun c2 => ?_)
  · rw [if_pos c2] at h
    exact E _ _ _ _ _ (Nat.le_refl 0) (Nat.le_refl 0) dX3_addTo_30 ⟨(), rfl, h, hW, hE⟩
  · rw [if_neg c2] at h
    refine wk_iload C dX3_addTo_12 rfl ?_
    refine wk_bipush C (v := 80) dX3_addTo_14 (by decide) ?_
    refine wk_icmp_ge C (tgt := 30) dX3_addTo_16 (by decide) (fun c3 => ?_) (fun c3 => ?_)
    · rw [if_pos c3] at h
      exact E _ _ _ _ _ (Nat.le_refl 0) (Nat.le_refl 0) dX3_addTo_30 ⟨(), rfl, h, hW, hE⟩
    · rw [if_neg c3] at h
      refine wk_aload_n C dX3_addTo_19 rfl rfl ?_
      refine wk_get C huX3_addTo_3 hl0A.1 (fun cy => wAt_3 cy _ hl0A.2) rfl 7 (by decide) (List.mem_of_getElem? (i := 1) rfl) rfl (congrArg some (congrArg va_rf (wf_Entry_numbers hW hl0A).1)) dX3_addTo_20 ?_
      refine wk_iload C dX3_addTo_23 rfl ?_
      refine wk_dup2 C dX3_addTo_25 rfl rfl ?_
      obtain ⟨i4, h⟩ := h
      refine wk_iald C (wf_Entry_numbers hW hl0A).2.1 (wf_Entry_numbers hW hl0A).2.2 i4 rfl dX3_addTo_26 ?_
      refine wk_iload_n C dX3_addTo_27 rfl rfl ?_
      refine wk_iadd C dX3_addTo_28 rfl ?_
      obtain ⟨i5, h⟩ := h
      obtain ⟨S6, eS6, h⟩ := wkLt_some h
      refine wk_iast C (wf_Entry_numbers hW hl0A).2.1 (wf_Entry_numbers hW hl0A).2.2 i5 eS6.symm dX3_addTo_29 ?_
      have hWS6 : wkWF S6 := by rw [eS6]; exact hW
      have hXS6 : wkExt S S6 := by rw [eS6]; exact wkExt.rf
      exact E _ _ _ _ _ (Nat.le_refl 0) (Nat.le_refl 0) dX3_addTo_30 ⟨(), rfl, h, hWS6, (wkExt.tr hE hXS6)⟩
