def wvX9_add : List Cond := .code yX9_add cX9_add 2 none :: (([.fieldLink RX9 13 "Witnessworks$Row" "count" "I", .fieldLink RX9 7 "Witnessworks$Row" "numbers" "[I", .methodLink RX9 17 yJ7_copyOf_59c91, .static yJ7_copyOf_59c91, .initialized RJ7] : List Cond) ++ ((wsX90) ++ (wvJ7_copyOf_59c91)))
theorem huX9_add_9 : ∀ w ∈ u_ws RX9 TX9 2, w ∈ wvX9_add := fun w h => List.mem_cons_of_mem _ (List.mem_append_right _ (List.mem_append_left _ h))
theorem hbX9_add_J7_copyOf_59c91 : ∀ w ∈ wvJ7_copyOf_59c91, w ∈ wvX9_add := fun w h => List.mem_cons_of_mem _ (List.mem_append_right _ (List.mem_append_right _ h))
theorem gdX9_add : ∀ w ∈ wvX9_add, wkGd w := wkGdC rfl (wkGdA (wkGdL (by decide +kernel)) (wkGdA gdX9 gdJ7_copyOf_59c91))
def rX9_add (F : Nat) (k n : Nat) (l0A : Nat) (l1I : Int32) (S : wPS) (Φ : (Unit → wPS → Prop)) : Prop :=
  if (gRow_count S l0A) < (1024 : Int32) then (if (gRow_count S l0A) < (Int32.ofNat (S.len (wkAd (gRow_numbers S l0A)))) then (¬ ((gRow_count S l0A) < 0 ∨ S.len (wkAd (gRow_numbers S l0A)) ≤ ((gRow_count S l0A)).toNatClampNeg) ∧ wkLt (wuI S (wkAd (gRow_numbers S l0A)) (gRow_count S l0A) l1I) fun S4 => wkLt (wu_Row_count S4 l0A ((gRow_count S4 l0A) + (1 : Int32))) fun S5 => Φ () S5) else (∃ k9 n10 : Nat, 0 + k9 ≤ k ∧ 0 + n10 ≤ n ∧ rJ7_copyOf_59c91 F k9 n10 (wkAd (gRow_numbers S l0A)) ((2 : Int32) * (Int32.ofNat (S.len (wkAd (gRow_numbers S l0A))))) S fun v6 S7 => wkLt (wu_Row_numbers S7 l0A (some v6)) fun S11 => ¬ ((gRow_count S11 l0A) < 0 ∨ S11.len (wkAd (gRow_numbers S11 l0A)) ≤ ((gRow_count S11 l0A)).toNatClampNeg) ∧ wkLt (wuI S11 (wkAd (gRow_numbers S11 l0A)) (gRow_count S11 l0A) l1I) fun S13 => wkLt (wu_Row_count S13 l0A ((gRow_count S13 l0A) + (1 : Int32))) fun S14 => Φ () S14)) else (Φ () S)
set_option maxHeartbeats 4000000 in
set_option maxRecDepth 100000 in
theorem tX9_add {l : Launch} {g : wkG} {F : Nat} {k n : Nat}  {S : wPS} {l0A : Nat} {l1I : Int32} {Φ : (Unit → wPS → Prop)} (hW : wkWF S) (hl0A : wkIs S l0A 9) (h : rX9_add F k n l0A l1I S Φ) : wkMet l g yX9_add wvX9_add 2 k n [.ref l0A, .int l1I] S (fun v' S'' => ∃ v : Unit, v' = none ∧ Φ v S'' ∧ wkWF S'' ∧ wkExt S S'') := by
  refine wkMet_of (ret := none) (by decide) rfl (Nat.le_of_ble_eq_true rfl) (fun X hg C hR E => ?_)
  subst hg
  have hE : wkExt S S := wkExt.rf
  have hd : 2 ≤ 2 := Nat.le_refl _
  show wkGo l X 2 0 0 0 S [some (.ref l0A), some (.int l1I)] []
  unfold rX9_add at h
  refine wk_aload_n C dX9_add_0 rfl rfl ?_
  refine wk_get C (v := .int (gRow_count S l0A)) huX9_add_9 hl0A.1 (fun cy => wAt_9 cy _ hl0A.2) rfl 1 (by decide) (List.mem_of_getElem? (i := 1) rfl) rfl rfl dX9_add_1 ?_
  refine wk_sipush C (v := 1024) dX9_add_4 (by decide) ?_
  refine wk_icmp_lt C (tgt := 11) dX9_add_7 (by decide) (fun c1 => ?_) (fun c1 => ?_)
  · rw [if_pos c1] at h
    refine wk_aload_n C dX9_add_11 rfl rfl ?_
    refine wk_get C (v := .int (gRow_count S l0A)) huX9_add_9 hl0A.1 (fun cy => wAt_9 cy _ hl0A.2) rfl 1 (by decide) (List.mem_of_getElem? (i := 1) rfl) rfl rfl dX9_add_12 ?_
    refine wk_aload_n C dX9_add_15 rfl rfl ?_
    refine wk_get C huX9_add_9 hl0A.1 (fun cy => wAt_9 cy _ hl0A.2) rfl 0 (by decide) (List.mem_of_getElem? (i := 2) rfl) rfl (congrArg some (congrArg va_rf (wf_Row_numbers hW hl0A).1)) dX9_add_16 ?_
    refine wk_ilen C (wf_Row_numbers hW hl0A).2.1 (wf_Row_numbers hW hl0A).2.2 rfl dX9_add_19 ?_
    refine wk_icmp_lt C (tgt := 41) dX9_add_20 (by decide) (fun c2 => ?_) (fun c2 => ?_)
    · rw [if_pos c2] at h
      refine wk_aload_n C dX9_add_41 rfl rfl ?_
      refine wk_get C huX9_add_9 hl0A.1 (fun cy => wAt_9 cy _ hl0A.2) rfl 0 (by decide) (List.mem_of_getElem? (i := 2) rfl) rfl (congrArg some (congrArg va_rf (wf_Row_numbers hW hl0A).1)) dX9_add_42 ?_
      refine wk_aload_n C dX9_add_45 rfl rfl ?_
      refine wk_get C (v := .int (gRow_count S l0A)) huX9_add_9 hl0A.1 (fun cy => wAt_9 cy _ hl0A.2) rfl 1 (by decide) (List.mem_of_getElem? (i := 1) rfl) rfl rfl dX9_add_46 ?_
      refine wk_iload_n C dX9_add_49 rfl rfl ?_
      obtain ⟨i3, h⟩ := h
      obtain ⟨S4, eS4, h⟩ := wkLt_some h
      refine wk_iast C (wf_Row_numbers hW hl0A).2.1 (wf_Row_numbers hW hl0A).2.2 i3 eS4.symm dX9_add_50 ?_
      have hWS4 : wkWF S4 := by rw [eS4]; exact hW
      have hXS4 : wkExt S S4 := by rw [eS4]; exact wkExt.rf
      refine wk_aload_n C dX9_add_51 rfl rfl ?_
      refine wk_dup C dX9_add_52 rfl ?_
      refine wk_get C (v := .int (gRow_count S4 l0A)) huX9_add_9 (hXS4 _ _ hl0A).1 (fun cy => wAt_9 cy _ (hXS4 _ _ hl0A).2) rfl 1 (by decide) (List.mem_of_getElem? (i := 1) rfl) rfl rfl dX9_add_53 ?_
      refine wk_iconst C (v := 1) dX9_add_56 (by decide) ?_
      refine wk_iadd C dX9_add_57 rfl ?_
      obtain ⟨S5, eS5, h⟩ := wkLt_some h
      refine wk_put C (S' := S5) huX9_add_9 (hXS4 _ _ hl0A).1 (fun cy => wAt_9 cy _ (hXS4 _ _ hl0A).2) rfl 1 (by decide) (List.mem_of_getElem? (i := 1) rfl) rfl tyX9_ok nmX9 rfl (ty := .int) rfl rfl rfl (by show 1 < 2; decide) (fun cy b => by rw [eS5]; exact wSt_9_1 cy _ (hXS4 _ _ hl0A).2 _ b) (by rw [eS5]) dX9_add_58 ?_
      have hWS5 : wkWF S5 := by rw [eS5]; exact hWS4
      have hXS5 : wkExt S4 S5 := by rw [eS5]; exact wkExt.rf
      exact E _ _ _ _ _ (Nat.zero_le _) (Nat.zero_le _) dX9_add_61 ⟨(), rfl, h, hWS5, (wkExt.tr (wkExt.tr hE hXS4) hXS5)⟩
    · rw [if_neg c2] at h
      refine wk_aload_n C dX9_add_23 rfl rfl ?_
      refine wk_aload_n C dX9_add_24 rfl rfl ?_
      refine wk_get C huX9_add_9 hl0A.1 (fun cy => wAt_9 cy _ hl0A.2) rfl 0 (by decide) (List.mem_of_getElem? (i := 2) rfl) rfl (congrArg some (congrArg va_rf (wf_Row_numbers hW hl0A).1)) dX9_add_25 ?_
      refine wk_iconst C (v := 2) dX9_add_28 (by decide) ?_
      refine wk_aload_n C dX9_add_29 rfl rfl ?_
      refine wk_get C huX9_add_9 hl0A.1 (fun cy => wAt_9 cy _ hl0A.2) rfl 0 (by decide) (List.mem_of_getElem? (i := 2) rfl) rfl (congrArg some (congrArg va_rf (wf_Row_numbers hW hl0A).1)) dX9_add_30 ?_
      refine wk_ilen C (wf_Row_numbers hW hl0A).2.1 (wf_Row_numbers hW hl0A).2.2 rfl dX9_add_33 ?_
      refine wk_imul C dX9_add_34 rfl ?_
      obtain ⟨k9, n10, hk9, hn10, h⟩ := h
      refine wk_callW C hR (As := [.ref (wkAd (gRow_numbers S l0A)), .int ((2 : Int32) * (Int32.ofNat (S.len (wkAd (gRow_numbers S l0A)))))]) (cnt := 2) (tJ7_copyOf_59c91 (l := l) hW (wf_Row_numbers hW hl0A).2 h) rfl (wkGoodW (List.mem_of_getElem? (i := 3) rfl) (List.mem_of_getElem? (i := 4) rfl) (List.mem_of_getElem? (i := 5) rfl) hbX9_add_J7_copyOf_59c91 gdJ7_copyOf_59c91) (Nat.le_trans (by decide : 1 + 1 ≤ 2) hd) (by decide) ⟨by decide, by decide, by decide +kernel⟩ rfl rfl (Nat.le_of_ble_eq_true rfl) hk9 hn10 dX9_add_35 (fun v' S7 hp => ?_)
      obtain ⟨v6, rfl, h, hWS7, hXS7, hIS7⟩ := hp
      obtain ⟨S11, eS11, h⟩ := wkLt_some h
      refine wk_put C (S' := S11) huX9_add_9 (hXS7 _ _ hl0A).1 (fun cy => wAt_9 cy _ (hXS7 _ _ hl0A).2) rfl 0 (by decide) (List.mem_of_getElem? (i := 2) rfl) rfl tyX9_ok nmX9 rfl (ty := (.array .int)) rfl rfl rfl (by show 0 < 2; decide) (fun cy b => by rw [eS11]; exact wSt_9_0 cy _ (hXS7 _ _ hl0A).2 (some v6) b) (by rw [eS11]) dX9_add_38 ?_
      have hWS11 : wkWF S11 := by rw [eS11]; exact (wkWF_Row_numbers hWS7 (hXS7 _ _ hl0A) hIS7)
      have hXS11 : wkExt S7 S11 := by rw [eS11]; exact wkExt.rf
      refine wk_aload_n C dX9_add_41 rfl rfl ?_
      refine wk_get C huX9_add_9 (hXS11 _ _ (hXS7 _ _ hl0A)).1 (fun cy => wAt_9 cy _ (hXS11 _ _ (hXS7 _ _ hl0A)).2) rfl 0 (by decide) (List.mem_of_getElem? (i := 2) rfl) rfl (congrArg some (congrArg va_rf (wf_Row_numbers hWS11 (hXS11 _ _ (hXS7 _ _ hl0A))).1)) dX9_add_42 ?_
      refine wk_aload_n C dX9_add_45 rfl rfl ?_
      refine wk_get C (v := .int (gRow_count S11 l0A)) huX9_add_9 (hXS11 _ _ (hXS7 _ _ hl0A)).1 (fun cy => wAt_9 cy _ (hXS11 _ _ (hXS7 _ _ hl0A)).2) rfl 1 (by decide) (List.mem_of_getElem? (i := 1) rfl) rfl rfl dX9_add_46 ?_
      refine wk_iload_n C dX9_add_49 rfl rfl ?_
      obtain ⟨i12, h⟩ := h
      obtain ⟨S13, eS13, h⟩ := wkLt_some h
      refine wk_iast C (wf_Row_numbers hWS11 (hXS11 _ _ (hXS7 _ _ hl0A))).2.1 (wf_Row_numbers hWS11 (hXS11 _ _ (hXS7 _ _ hl0A))).2.2 i12 eS13.symm dX9_add_50 ?_
      have hWS13 : wkWF S13 := by rw [eS13]; exact hWS11
      have hXS13 : wkExt S11 S13 := by rw [eS13]; exact wkExt.rf
      refine wk_aload_n C dX9_add_51 rfl rfl ?_
      refine wk_dup C dX9_add_52 rfl ?_
      refine wk_get C (v := .int (gRow_count S13 l0A)) huX9_add_9 (hXS13 _ _ (hXS11 _ _ (hXS7 _ _ hl0A))).1 (fun cy => wAt_9 cy _ (hXS13 _ _ (hXS11 _ _ (hXS7 _ _ hl0A))).2) rfl 1 (by decide) (List.mem_of_getElem? (i := 1) rfl) rfl rfl dX9_add_53 ?_
      refine wk_iconst C (v := 1) dX9_add_56 (by decide) ?_
      refine wk_iadd C dX9_add_57 rfl ?_
      obtain ⟨S14, eS14, h⟩ := wkLt_some h
      refine wk_put C (S' := S14) huX9_add_9 (hXS13 _ _ (hXS11 _ _ (hXS7 _ _ hl0A))).1 (fun cy => wAt_9 cy _ (hXS13 _ _ (hXS11 _ _ (hXS7 _ _ hl0A))).2) rfl 1 (by decide) (List.mem_of_getElem? (i := 1) rfl) rfl tyX9_ok nmX9 rfl (ty := .int) rfl rfl rfl (by show 1 < 2; decide) (fun cy b => by rw [eS14]; exact wSt_9_1 cy _ (hXS13 _ _ (hXS11 _ _ (hXS7 _ _ hl0A))).2 _ b) (by rw [eS14]) dX9_add_58 ?_
      have hWS14 : wkWF S14 := by rw [eS14]; exact hWS13
      have hXS14 : wkExt S13 S14 := by rw [eS14]; exact wkExt.rf
      exact E _ _ _ _ _ hk9 hn10 dX9_add_61 ⟨(), rfl, h, hWS14, (wkExt.tr (wkExt.tr (wkExt.tr (wkExt.tr hE hXS7) hXS11) hXS13) hXS14)⟩
  · rw [if_neg c1] at h
    exact E _ _ _ _ _ (Nat.zero_le _) (Nat.zero_le _) dX9_add_10 ⟨(), rfl, h, hW, hE⟩
def wvX9_addBelow : List Cond := .code yX9_addBelow cX9_addBelow 3 none :: (([.fieldLink RX9 13 "Witnessworks$Row" "count" "I", .methodLink RX9 23 yX9_add, .instanceMethod yX9_add, .selects RX9 yX9_add yX9_add, .initialized RX9] : List Cond) ++ ((wsX90) ++ (wvX9_add)))
theorem huX9_addBelow_9 : ∀ w ∈ u_ws RX9 TX9 2, w ∈ wvX9_addBelow := fun w h => List.mem_cons_of_mem _ (List.mem_append_right _ (List.mem_append_left _ h))
theorem hbX9_addBelow_X9_add : ∀ w ∈ wvX9_add, w ∈ wvX9_addBelow := fun w h => List.mem_cons_of_mem _ (List.mem_append_right _ (List.mem_append_right _ h))
theorem gdX9_addBelow : ∀ w ∈ wvX9_addBelow, wkGd w := wkGdC rfl (wkGdA (wkGdL (by decide +kernel)) (wkGdA gdX9 gdX9_add))
def rX9_addBelow (F : Nat) (k n : Nat) (l0A : Nat) (l1I : Int32) (l2I : Int32) (S : wPS) (Φ : (Unit → wPS → Prop)) : Prop :=
  if l1I ≤ (gRow_count S l0A) then (Φ () S) else (∃ k5 n6 : Nat, 0 + k5 ≤ k ∧ 0 + n6 ≤ n ∧ rX9_add F k5 n6 l0A l2I S fun v2 S3 => Φ () S3)
set_option maxHeartbeats 4000000 in
set_option maxRecDepth 100000 in
theorem tX9_addBelow {l : Launch} {g : wkG} {F : Nat} {k n : Nat}  {S : wPS} {l0A : Nat} {l1I : Int32} {l2I : Int32} {Φ : (Unit → wPS → Prop)} (hW : wkWF S) (hl0A : wkIs S l0A 9) (h : rX9_addBelow F k n l0A l1I l2I S Φ) : wkMet l g yX9_addBelow wvX9_addBelow 3 k n [.ref l0A, .int l1I, .int l2I] S (fun v' S'' => ∃ v : Unit, v' = none ∧ Φ v S'' ∧ wkWF S'' ∧ wkExt S S'') := by
  refine wkMet_of (ret := none) (by decide) rfl (Nat.le_of_ble_eq_true rfl) (fun X hg C hR E => ?_)
  subst hg
  have hE : wkExt S S := wkExt.rf
  have hd : 3 ≤ 3 := Nat.le_refl _
  show wkGo l X 3 0 0 0 S [some (.ref l0A), some (.int l1I), some (.int l2I)] []
  unfold rX9_addBelow at h
  refine wk_aload_n C dX9_addBelow_0 rfl rfl ?_
  refine wk_get C (v := .int (gRow_count S l0A)) huX9_addBelow_9 hl0A.1 (fun cy => wAt_9 cy _ hl0A.2) rfl 1 (by decide) (List.mem_of_getElem? (i := 1) rfl) rfl rfl dX9_addBelow_1 ?_
  refine wk_iload_n C dX9_addBelow_4 rfl rfl ?_
  refine wk_icmp_ge C (tgt := 13) dX9_addBelow_5 (by decide) (fun c1 => ?_) (fun c1 => ?_)
  · rw [if_pos c1] at h
    exact E _ _ _ _ _ (Nat.zero_le _) (Nat.zero_le _) dX9_addBelow_13 ⟨(), rfl, h, hW, hE⟩
  · rw [if_neg c1] at h
    refine wk_aload_n C dX9_addBelow_8 rfl rfl ?_
    refine wk_iload_n C dX9_addBelow_9 rfl rfl ?_
    obtain ⟨k5, n6, hk5, hn6, h⟩ := h
    refine wk_callV C hR (As := [.int l2I]) (cnt := 1) (tX9_add (l := l) hW hl0A h) rfl (wkGoodV (List.mem_of_getElem? (i := 2) rfl) (List.mem_of_getElem? (i := 3) rfl) (List.mem_of_getElem? (i := 4) rfl) (List.mem_of_getElem? (i := 5) rfl) hbX9_addBelow_X9_add gdX9_add) (Nat.le_trans (by decide : 2 + 1 ≤ 3) hd) (by decide) hl0A.1 (fun cy => wAt_9 cy _ hl0A.2) rfl ⟨by decide, by decide, by decide +kernel⟩ rfl rfl (Nat.le_of_ble_eq_true rfl) hk5 hn6 dX9_addBelow_10 (fun v' S3 hp => ?_)
    obtain ⟨v2, rfl, h, hWS3, hXS3⟩ := hp
    exact E _ _ _ _ _ hk5 hn6 dX9_addBelow_13 ⟨(), rfl, h, hWS3, (wkExt.tr hE hXS3)⟩
def wvX9_isLike : List Cond := .code yX9_isLike cX9_isLike 2 (some .boolean) :: (([.fieldLink RX9 13 "Witnessworks$Row" "count" "I", .methodLink RX9 33 yX9_firstUnlike, .instanceMethod yX9_firstUnlike, .selects RX9 yX9_firstUnlike yX9_firstUnlike, .initialized RX9] : List Cond) ++ ((wsX90) ++ (wvX9_firstUnlike)))
theorem huX9_isLike_9 : ∀ w ∈ u_ws RX9 TX9 2, w ∈ wvX9_isLike := fun w h => List.mem_cons_of_mem _ (List.mem_append_right _ (List.mem_append_left _ h))
theorem hbX9_isLike_X9_firstUnlike : ∀ w ∈ wvX9_firstUnlike, w ∈ wvX9_isLike := fun w h => List.mem_cons_of_mem _ (List.mem_append_right _ (List.mem_append_right _ h))
theorem gdX9_isLike : ∀ w ∈ wvX9_isLike, wkGd w := wkGdC rfl (wkGdA (wkGdL (by decide +kernel)) (wkGdA gdX9 gdX9_firstUnlike))
def rX9_isLike (F : Nat) (l0A : Nat) (l1A : Nat) (S : wPS) (Φ : (Int32 → wPS → Prop)) : Prop :=
  if (gRow_count S l0A) = (gRow_count S l1A) then (rX9_firstUnlike F l0A l1A S fun v2 S3 => if v2 = (gRow_count S3 l0A) then (Φ (1 : Int32) S3) else (Φ (0 : Int32) S3)) else (Φ (0 : Int32) S)
set_option maxHeartbeats 4000000 in
set_option maxRecDepth 100000 in
theorem tX9_isLike {l : Launch} {g : wkG} {F : Nat}  {S : wPS} {l0A : Nat} {l1A : Nat} {Φ : (Int32 → wPS → Prop)} (hW : wkWF S) (hl0A : wkIs S l0A 9) (hl1A : wkIs S l1A 9) (h : rX9_isLike F l0A l1A S Φ) : wkMet l g yX9_isLike wvX9_isLike 2 0 0 [.ref l0A, .ref l1A] S (fun v' S'' => ∃ v : Int32, v' = some (.int v) ∧ Φ v S'' ∧ wkWF S'' ∧ wkExt S S'') := by
  refine wkMet_of (ret := (some .boolean)) (by decide) rfl (Nat.le_of_ble_eq_true rfl) (fun X hg C hR E => ?_)
  subst hg
  have hE : wkExt S S := wkExt.rf
  have hd : 2 ≤ 2 := Nat.le_refl _
  show wkGo l X 2 0 0 0 S [some (.ref l0A), some (.ref l1A)] []
  unfold rX9_isLike at h
  refine wk_aload_n C dX9_isLike_0 rfl rfl ?_
  refine wk_get C (v := .int (gRow_count S l0A)) huX9_isLike_9 hl0A.1 (fun cy => wAt_9 cy _ hl0A.2) rfl 1 (by decide) (List.mem_of_getElem? (i := 1) rfl) rfl rfl dX9_isLike_1 ?_
  refine wk_aload_n C dX9_isLike_4 rfl rfl ?_
  refine wk_get C (v := .int (gRow_count S l1A)) huX9_isLike_9 hl1A.1 (fun cy => wAt_9 cy _ hl1A.2) rfl 1 (by decide) (List.mem_of_getElem? (i := 1) rfl) rfl rfl dX9_isLike_5 ?_
  refine wk_icmp_ne C (tgt := 27) dX9_isLike_8 (by decide) (fun c1 => ?_) (fun c1 => ?_)
  · rw [if_neg c1] at h
    refine wk_iconst C (v := 0) dX9_isLike_27 (by decide) ?_
    exact E _ _ _ _ _ _ (Nat.le_refl 0) (Nat.le_refl 0) dX9_isLike_28 rfl ⟨(0 : Int32), rfl, h, hW, hE⟩
  · rw [if_pos c1] at h
    refine wk_aload_n C dX9_isLike_11 rfl rfl ?_
    refine wk_aload_n C dX9_isLike_12 rfl rfl ?_
    refine wk_callV C hR (As := [.ref l1A]) (cnt := 1) (tX9_firstUnlike (l := l) hW hl0A hl1A h) rfl (wkGoodV (List.mem_of_getElem? (i := 2) rfl) (List.mem_of_getElem? (i := 3) rfl) (List.mem_of_getElem? (i := 4) rfl) (List.mem_of_getElem? (i := 5) rfl) hbX9_isLike_X9_firstUnlike gdX9_firstUnlike) (Nat.le_trans (by decide : 1 + 1 ≤ 2) hd) (by decide) hl0A.1 (fun cy => wAt_9 cy _ hl0A.2) rfl ⟨by decide, by decide, by decide +kernel⟩ rfl rfl (Nat.le_of_ble_eq_true rfl) (Nat.le_refl 0) (Nat.le_refl 0) dX9_isLike_13 (fun v' S3 hp => ?_)
    obtain ⟨v2, rfl, h, hWS3, hXS3⟩ := hp
    refine wk_aload_n C dX9_isLike_16 rfl rfl ?_
    refine wk_get C (v := .int (gRow_count S3 l0A)) huX9_isLike_9 (hXS3 _ _ hl0A).1 (fun cy => wAt_9 cy _ (hXS3 _ _ hl0A).2) rfl 1 (by decide) (List.mem_of_getElem? (i := 1) rfl) rfl rfl dX9_isLike_17 ?_
    refine wk_icmp_ne C (tgt := 27) dX9_isLike_20 (by decide) (fun c7 => ?_) (fun c7 => ?_)
    · rw [if_neg c7] at h
      refine wk_iconst C (v := 0) dX9_isLike_27 (by decide) ?_
      exact E _ _ _ _ _ _ (Nat.le_refl 0) (Nat.le_refl 0) dX9_isLike_28 rfl ⟨(0 : Int32), rfl, h, hWS3, (wkExt.tr hE hXS3)⟩
    · rw [if_pos c7] at h
      refine wk_iconst C (v := 1) dX9_isLike_23 (by decide) ?_
      refine wk_goto C (tgt := 28) dX9_isLike_24 (by decide) ?_
      exact E _ _ _ _ _ _ (Nat.le_refl 0) (Nat.le_refl 0) dX9_isLike_28 rfl ⟨(1 : Int32), rfl, h, hWS3, (wkExt.tr hE hXS3)⟩
def wvX10_loadItems : List Cond := .code yX10_loadItems cX10_loadItems 3 none :: (([.fieldLink RX10 16 "Witnessworks$Words" "goal" "[I", .fieldLink RX10 84 "Witnessworks$Words" "lastUsed" "I", .fieldLink RX10 75 "Witnessworks$Entry" "itemCount" "I", .methodLink RX10 87 yX10_loadPoints, .static yX10_loadPoints, .initialized RX10, .fieldLink RX10 13 "Witnessworks$Words" "leads" "[[I", .fieldLink RX10 67 "Witnessworks$Entry" "size" "I", .fieldLink RX10 71 "Witnessworks$Words" "size" "I", .fieldLink RX10 72 "Witnessworks$Entry" "boundNow" "I", .methodLink RX10 78 Lib.Math.min.name, .static Lib.Math.min.name, .initialized "java/lang/Math", .code Lib.Math.min.name Lib.Math.min.code 2 (some .int)] : List Cond) ++ ((wsX100 ++ (wsX30)) ++ (wvX10_loadPoints)))
theorem huX10_loadItems_10 : ∀ w ∈ u_ws RX10 TX10 12, w ∈ wvX10_loadItems := fun w h => List.mem_cons_of_mem _ (List.mem_append_right _ (List.mem_append_left _ (List.mem_append_left _ h)))
theorem huX10_loadItems_3 : ∀ w ∈ u_ws RX3 TX3 17, w ∈ wvX10_loadItems := fun w h => List.mem_cons_of_mem _ (List.mem_append_right _ (List.mem_append_left _ (List.mem_append_right _ h)))
theorem hbX10_loadItems_X10_loadPoints : ∀ w ∈ wvX10_loadPoints, w ∈ wvX10_loadItems := fun w h => List.mem_cons_of_mem _ (List.mem_append_right _ (List.mem_append_right _ h))
theorem gdX10_loadItems : ∀ w ∈ wvX10_loadItems, wkGd w := wkGdC rfl (wkGdA (wkGdL (by decide +kernel)) (wkGdA (wkGdA gdX10 gdX3) gdX10_loadPoints))
def rX10_loadItems_b0 (F : Nat) (rec : Nat → Nat → Nat → Int32 → wPS → (Unit → wPS → Prop) → Prop) (l0A : Nat) (l1A : Nat) (l2I : Int32) (S : wPS) (Φ : (Unit → wPS → Prop)) : Prop :=
  if (6 : Int32) ≤ l2I then (rec 1 l0A l1A (0 : Int32) S Φ) else (¬ (l2I < 0 ∨ S.len (wkAd (gWords_goal S l0A)) ≤ (l2I).toNatClampNeg) ∧ wkLt (wuI S (wkAd (gWords_goal S l0A)) l2I l2I) fun S3 => wkLt (l2I + (1 : Int32)) fun x4 => rec 0 l0A l1A x4 S3 Φ)
def rX10_loadItems_b1 (F : Nat) (rec : Nat → Nat → Nat → Int32 → wPS → (Unit → wPS → Prop) → Prop) (l0A : Nat) (l1A : Nat) (l2I : Int32) (S : wPS) (Φ : (Unit → wPS → Prop)) : Prop :=
  if (gWords_lastUsed S l0A) < l2I then (if (gEntry_itemCount S l1A) ≤ 0 then (Φ () S) else (rX10_loadPoints F l1A (0 : Int32) (wkAd (gWords_goal S l0A)) S fun v7 S8 => Φ () S8)) else (¬ (l2I < 0 ∨ S.len (wkAd (gWords_leads S l0A)) ≤ (l2I).toNatClampNeg) ∧ rX10_loadPoints F l1A l2I (wkAd (S.rA (wkAd (gWords_leads S l0A)) (l2I).toNatClampNeg)) S fun v14 S15 => wkLt (l2I + (1 : Int32)) fun x19 => rec 1 l0A l1A x19 S15 Φ)
def rX10_loadItems_go (F : Nat) : Nat → Nat → Nat → Nat → Int32 → wPS → (Unit → wPS → Prop) → Prop
  | 0, _, _, _, _, _, _ => False
  | k' + 1, lab, l0A, l1A, l2I, S, Φ => if lab = 0 then rX10_loadItems_b0 F (rX10_loadItems_go F k') l0A l1A l2I S Φ else if lab = 1 then rX10_loadItems_b1 F (rX10_loadItems_go F k') l0A l1A l2I S Φ else False
def rX10_loadItems_s (F : Nat) (rec : Nat → Nat → Nat → Int32 → wPS → (Unit → wPS → Prop) → Prop) (l0A : Nat) (l1A : Nat) (S : wPS) (Φ : (Unit → wPS → Prop)) : Prop :=
  wkLt (wu_Words_size S l0A (gEntry_size S l1A)) fun S20 => wkLt (wu_Words_lastUsed S20 l0A (if ((gEntry_itemCount S20 l1A) - (1 : Int32)) < (gEntry_boundNow S20 l1A) then ((gEntry_itemCount S20 l1A) - (1 : Int32)) else (gEntry_boundNow S20 l1A))) fun S21 => rec 0 l0A l1A (0 : Int32) S21 Φ
def rX10_loadItems (F : Nat) (l0A : Nat) (l1A : Nat) (S : wPS) (Φ : (Unit → wPS → Prop)) : Prop := rX10_loadItems_s F (rX10_loadItems_go F F) l0A l1A S Φ
set_option maxHeartbeats 4000000 in
set_option maxRecDepth 100000 in
theorem tX10_loadItems_go {l : Launch} {X : wkX} {d F : Nat} {S0 : wPS} {Φ : (Unit → wPS → Prop)} (C : wkC X cX10_loadItems RX10 3 wvX10_loadItems) (hR : wkRm X d 0 0) (hd : 2 ≤ d) (E : wkEnd l X cX10_loadItems 3 none 0 0 (fun v' S'' => ∃ v : Unit, v' = none ∧ Φ v S'' ∧ wkWF S'' ∧ wkExt S0 S'')) : ∀ k' : Nat, (∀ (l0A : Nat) (l1A : Nat) (l2I : Int32) (S : wPS), wkWF S → wkExt S0 S → wkIs S l0A 10 → wkIs S l1A 3 → rX10_loadItems_go F k' 0 l0A l1A l2I S Φ → wkGo l X 3 0 0 27 S [some (.ref l0A), some (.ref l1A), some (.int l2I)] []) ∧ (∀ (l0A : Nat) (l1A : Nat) (l2I : Int32) (S : wPS), wkWF S → wkExt S0 S → wkIs S l0A 10 → wkIs S l1A 3 → rX10_loadItems_go F k' 1 l0A l1A l2I S Φ → wkGo l X 3 0 0 48 S [some (.ref l0A), some (.ref l1A), some (.int l2I)] []) := by
  intro k'
  induction k' with
  | zero => exact ⟨fun l0A l1A l2I S hW hE hl0A hl1A h => h.elim, fun l0A l1A l2I S hW hE hl0A hl1A h => h.elim⟩
  | succ k' ih =>
    refine ⟨?_, ?_⟩
    · intro l0A l1A l2I S hW hE hl0A hl1A h
      have h : rX10_loadItems_b0 F (rX10_loadItems_go F k') l0A l1A l2I S Φ := by
        rw [rX10_loadItems_go, if_pos (rfl : (0 : Nat) = 0)] at h
        exact h
      unfold rX10_loadItems_b0 at h
      refine wk_iload_n C dX10_loadItems_27 rfl rfl ?_
      refine wk_bipush C (v := 6) dX10_loadItems_28 (by decide) ?_
      refine wk_icmp_ge C (tgt := 46) dX10_loadItems_30 (by decide) (fun c1 => ?_) (fun c1 => ?_)
      · rw [if_pos c1] at h
        refine wk_iconst C (v := 0) dX10_loadItems_46 (by decide) ?_
        refine wk_istore_n C (lv' := [some (.ref l0A), some (.ref l1A), some (.int (0 : Int32))]) dX10_loadItems_47 rfl (by decide) rfl ?_
        exact wk_forget (lv' := [some (.ref l0A), some (.ref l1A), some (.int (0 : Int32))]) (wkLs.le ⟨rfl, rfl, rfl, trivial⟩) (ih.2 _ _ _ _ hW hE hl0A hl1A h)
      · rw [if_neg c1] at h
        refine wk_aload_n C dX10_loadItems_33 rfl rfl ?_
        refine wk_get C huX10_loadItems_10 hl0A.1 (fun cy => wAt_10 cy _ hl0A.2) rfl 1 (by decide) (List.mem_of_getElem? (i := 1) rfl) rfl (congrArg some (congrArg va_rf (wf_Words_goal hW hl0A).1)) dX10_loadItems_34 ?_
        refine wk_iload_n C dX10_loadItems_37 rfl rfl ?_
        refine wk_iload_n C dX10_loadItems_38 rfl rfl ?_
        obtain ⟨i2, h⟩ := h
        obtain ⟨S3, eS3, h⟩ := wkLt_some h
        refine wk_iast C (wf_Words_goal hW hl0A).2.1 (wf_Words_goal hW hl0A).2.2 i2 eS3.symm dX10_loadItems_39 ?_
        have hWS3 : wkWF S3 := by rw [eS3]; exact hW
        have hXS3 : wkExt S S3 := by rw [eS3]; exact wkExt.rf
        obtain ⟨x4, ex4, h⟩ := wkLt_some h
        refine wk_iinc C (lv' := [some (.ref l0A), some (.ref l1A), some (.int x4)]) dX10_loadItems_40 rfl (by rw [ex4]; rfl) (by decide) rfl ?_
        refine wk_goto C (tgt := 27) dX10_loadItems_43 (by decide) ?_
        exact wk_forget (lv' := [some (.ref l0A), some (.ref l1A), some (.int x4)]) (wkLs.le ⟨rfl, rfl, rfl, trivial⟩) (ih.1 _ _ _ _ hWS3 (wkExt.tr hE hXS3) (hXS3 _ _ hl0A) (hXS3 _ _ hl1A) h)
    · intro l0A l1A l2I S hW hE hl0A hl1A h
      have h : rX10_loadItems_b1 F (rX10_loadItems_go F k') l0A l1A l2I S Φ := by
        rw [rX10_loadItems_go, if_neg (show ¬ (1 : Nat) = 0 by decide), if_pos (rfl : (1 : Nat) = 1)] at h
        exact h
      unfold rX10_loadItems_b1 at h
      refine wk_iload_n C dX10_loadItems_48 rfl rfl ?_
      refine wk_aload_n C dX10_loadItems_49 rfl rfl ?_
      refine wk_get C (v := .int (gWords_lastUsed S l0A)) huX10_loadItems_10 hl0A.1 (fun cy => wAt_10 cy _ hl0A.2) rfl 11 (by decide) (List.mem_of_getElem? (i := 2) rfl) rfl rfl dX10_loadItems_50 ?_
      refine wk_icmp_gt C (tgt := 73) dX10_loadItems_53 (by decide) (fun c5 => ?_) (fun c5 => ?_)
      · rw [if_pos c5] at h
        refine wk_aload_n C dX10_loadItems_73 rfl rfl ?_
        refine wk_get C (v := .int (gEntry_itemCount S l1A)) huX10_loadItems_3 hl1A.1 (fun cy => wAt_3 cy _ hl1A.2) rfl 6 (by decide) (List.mem_of_getElem? (i := 3) rfl) rfl rfl dX10_loadItems_74 ?_
        refine wk_if_le C (tgt := 89) dX10_loadItems_77 (by decide) (fun c6 => ?_) (fun c6 => ?_)
        · rw [if_pos c6] at h
          exact E _ _ _ _ _ (Nat.le_refl 0) (Nat.le_refl 0) dX10_loadItems_89 ⟨(), rfl, h, hW, hE⟩
        · rw [if_neg c6] at h
          refine wk_aload_n C dX10_loadItems_80 rfl rfl ?_
          refine wk_iconst C (v := 0) dX10_loadItems_81 (by decide) ?_
          refine wk_aload_n C dX10_loadItems_82 rfl rfl ?_
          refine wk_get C huX10_loadItems_10 hl0A.1 (fun cy => wAt_10 cy _ hl0A.2) rfl 1 (by decide) (List.mem_of_getElem? (i := 1) rfl) rfl (congrArg some (congrArg va_rf (wf_Words_goal hW hl0A).1)) dX10_loadItems_83 ?_
          refine wk_callW C hR (As := [.ref l1A, .int (0 : Int32), .ref (wkAd (gWords_goal S l0A))]) (cnt := 3) (tX10_loadPoints (l := l) hW hl1A (wf_Words_goal hW hl0A).2 h) rfl (wkGoodW (List.mem_of_getElem? (i := 4) rfl) (List.mem_of_getElem? (i := 5) rfl) (List.mem_of_getElem? (i := 6) rfl) hbX10_loadItems_X10_loadPoints gdX10_loadPoints) (Nat.le_trans (by decide : 1 + 1 ≤ 2) hd) (by decide) ⟨by decide, by decide, by decide +kernel⟩ rfl rfl (Nat.le_of_ble_eq_true rfl) (Nat.le_refl 0) (Nat.le_refl 0) dX10_loadItems_86 (fun v' S8 hp => ?_)
          obtain ⟨v7, rfl, h, hWS8, hXS8⟩ := hp
          exact E _ _ _ _ _ (Nat.le_refl 0) (Nat.le_refl 0) dX10_loadItems_89 ⟨(), rfl, h, hWS8, (wkExt.tr hE hXS8)⟩
      · rw [if_neg c5] at h
        refine wk_aload_n C dX10_loadItems_56 rfl rfl ?_
        refine wk_iload_n C dX10_loadItems_57 rfl rfl ?_
        refine wk_aload_n C dX10_loadItems_58 rfl rfl ?_
        refine wk_get C huX10_loadItems_10 hl0A.1 (fun cy => wAt_10 cy _ hl0A.2) rfl 0 (by decide) (List.mem_of_getElem? (i := 7) rfl) rfl (congrArg some (congrArg va_rf (wf_Words_leads hW hl0A).1)) dX10_loadItems_59 ?_
        refine wk_iload_n C dX10_loadItems_62 rfl rfl ?_
        obtain ⟨i12, h⟩ := h
        have w13 := wf_R_I hW (wf_Words_leads hW hl0A).2 (Nat.not_le.mp fun q => i12 (Or.inr q))
        refine wk_aald_I C (wf_Words_leads hW hl0A).2.1 (wf_Words_leads hW hl0A).2.2 i12 w13.1 dX10_loadItems_63 ?_
        refine wk_callW C hR (As := [.ref l1A, .int l2I, .ref (wkAd (S.rA (wkAd (gWords_leads S l0A)) (l2I).toNatClampNeg))]) (cnt := 3) (tX10_loadPoints (l := l) hW hl1A w13.2 h) rfl (wkGoodW (List.mem_of_getElem? (i := 4) rfl) (List.mem_of_getElem? (i := 5) rfl) (List.mem_of_getElem? (i := 6) rfl) hbX10_loadItems_X10_loadPoints gdX10_loadPoints) (Nat.le_trans (by decide : 1 + 1 ≤ 2) hd) (by decide) ⟨by decide, by decide, by decide +kernel⟩ rfl rfl (Nat.le_of_ble_eq_true rfl) (Nat.le_refl 0) (Nat.le_refl 0) dX10_loadItems_64 (fun v' S15 hp => ?_)
        obtain ⟨v14, rfl, h, hWS15, hXS15⟩ := hp
        obtain ⟨x19, ex19, h⟩ := wkLt_some h
        refine wk_iinc C (lv' := [some (.ref l0A), some (.ref l1A), some (.int x19)]) dX10_loadItems_67 rfl (by rw [ex19]; rfl) (by decide) rfl ?_
        refine wk_goto C (tgt := 48) dX10_loadItems_70 (by decide) ?_
        exact wk_forget (lv' := [some (.ref l0A), some (.ref l1A), some (.int x19)]) (wkLs.le ⟨rfl, rfl, rfl, trivial⟩) (ih.2 _ _ _ _ hWS15 (wkExt.tr hE hXS15) (hXS15 _ _ hl0A) (hXS15 _ _ hl1A) h)
set_option maxHeartbeats 4000000 in
set_option maxRecDepth 100000 in
theorem tX10_loadItems {l : Launch} {g : wkG} {F : Nat}  {S : wPS} {l0A : Nat} {l1A : Nat} {Φ : (Unit → wPS → Prop)} (hW : wkWF S) (hl0A : wkIs S l0A 10) (hl1A : wkIs S l1A 3) (h : rX10_loadItems F l0A l1A S Φ) : wkMet l g yX10_loadItems wvX10_loadItems 2 0 0 [.ref l0A, .ref l1A] S (fun v' S'' => ∃ v : Unit, v' = none ∧ Φ v S'' ∧ wkWF S'' ∧ wkExt S S'') := by
  refine wkMet_of (ret := none) (by decide) rfl (Nat.le_of_ble_eq_true rfl) (fun X hg C hR E => ?_)
  subst hg
  have hE : wkExt S S := wkExt.rf
  have hd : 2 ≤ 2 := Nat.le_refl _
  show wkGo l X 3 0 0 0 S [some (.ref l0A), some (.ref l1A), none] []
  have ih := tX10_loadItems_go (F := F) C hR hd E F
  have h : rX10_loadItems_s F (rX10_loadItems_go F F) l0A l1A S Φ := h
  unfold rX10_loadItems_s at h
  refine wk_aload_n C dX10_loadItems_0 rfl rfl ?_
  refine wk_aload_n C dX10_loadItems_1 rfl rfl ?_
  refine wk_get C (v := .int (gEntry_size S l1A)) huX10_loadItems_3 hl1A.1 (fun cy => wAt_3 cy _ hl1A.2) rfl 1 (by decide) (List.mem_of_getElem? (i := 8) rfl) rfl rfl dX10_loadItems_2 ?_
  obtain ⟨S20, eS20, h⟩ := wkLt_some h
  refine wk_put C (S' := S20) huX10_loadItems_10 hl0A.1 (fun cy => wAt_10 cy _ hl0A.2) rfl 10 (by decide) (List.mem_of_getElem? (i := 9) rfl) rfl tyX10_ok nmX10 rfl (ty := .int) rfl rfl rfl (by show 10 < 12; decide) (fun cy b => by rw [eS20]; exact wSt_10_10 cy _ hl0A.2 _ b) (by rw [eS20]) dX10_loadItems_5 ?_
  have hWS20 : wkWF S20 := by rw [eS20]; exact hW
  have hXS20 : wkExt S S20 := by rw [eS20]; exact wkExt.rf
  refine wk_aload_n C dX10_loadItems_8 rfl rfl ?_
  refine wk_aload_n C dX10_loadItems_9 rfl rfl ?_
  refine wk_get C (v := .int (gEntry_boundNow S20 l1A)) huX10_loadItems_3 (hXS20 _ _ hl1A).1 (fun cy => wAt_3 cy _ (hXS20 _ _ hl1A).2) rfl 8 (by decide) (List.mem_of_getElem? (i := 10) rfl) rfl rfl dX10_loadItems_10 ?_
  refine wk_aload_n C dX10_loadItems_13 rfl rfl ?_
  refine wk_get C (v := .int (gEntry_itemCount S20 l1A)) huX10_loadItems_3 (hXS20 _ _ hl1A).1 (fun cy => wAt_3 cy _ (hXS20 _ _ hl1A).2) rfl 6 (by decide) (List.mem_of_getElem? (i := 3) rfl) rfl rfl dX10_loadItems_14 ?_
  refine wk_iconst C (v := 1) dX10_loadItems_17 (by decide) ?_
  refine wk_isub C dX10_loadItems_18 rfl ?_
  refine wk_mmin C hR (List.mem_of_getElem? (i := 11) rfl) (List.mem_of_getElem? (i := 12) rfl) (List.mem_of_getElem? (i := 13) rfl) (List.mem_of_getElem? (i := 14) rfl) (Nat.le_trans (by decide) hd) (Nat.le_refl 0) (Nat.le_refl 0) (Nat.le_of_ble_eq_true rfl) rfl dX10_loadItems_19 ?_
  obtain ⟨S21, eS21, h⟩ := wkLt_some h
  refine wk_put C (S' := S21) huX10_loadItems_10 (hXS20 _ _ hl0A).1 (fun cy => wAt_10 cy _ (hXS20 _ _ hl0A).2) rfl 11 (by decide) (List.mem_of_getElem? (i := 2) rfl) rfl tyX10_ok nmX10 rfl (ty := .int) rfl rfl rfl (by show 11 < 12; decide) (fun cy b => by rw [eS21]; exact wSt_10_11 cy _ (hXS20 _ _ hl0A).2 _ b) (by rw [eS21]) dX10_loadItems_22 ?_
  have hWS21 : wkWF S21 := by rw [eS21]; exact hWS20
  have hXS21 : wkExt S20 S21 := by rw [eS21]; exact wkExt.rf
  refine wk_iconst C (v := 0) dX10_loadItems_25 (by decide) ?_
  refine wk_istore_n C (lv' := [some (.ref l0A), some (.ref l1A), some (.int (0 : Int32))]) dX10_loadItems_26 rfl (by decide) rfl ?_
  exact wk_forget (lv' := [some (.ref l0A), some (.ref l1A), some (.int (0 : Int32))]) (wkLs.le ⟨rfl, rfl, rfl, trivial⟩) (ih.1 _ _ _ _ hWS21 (wkExt.tr (wkExt.tr hE hXS20) hXS21) (hXS21 _ _ (hXS20 _ _ hl0A)) (hXS21 _ _ (hXS20 _ _ hl1A)) h)
