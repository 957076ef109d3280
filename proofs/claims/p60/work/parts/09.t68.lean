def wvX11_testItem : List Cond := .code yX11_testItem cX11_testItem 3 none :: (([.fieldLink RX11 10 "Witnessworks" "house" "LWitnessworks$House;", .fieldLink RX11 26 "Witnessworks" "told" "[I", .methodLink RX11 480 yX4_isItemOf, .instanceMethod yX4_isItemOf, .selects RX4 yX4_isItemOf yX4_isItemOf, .initialized RX4, .methodLink RX11 486 yX4_isEdgeAgain, .instanceMethod yX4_isEdgeAgain, .selects RX4 yX4_isEdgeAgain yX4_isEdgeAgain] : List Cond) ++ ((wsX110) ++ (wvX4_isItemOf ++ (wvX4_isEdgeAgain))))
theorem huX11_testItem_11 : ∀ w ∈ u_ws RX11 TX11 19, w ∈ wvX11_testItem := fun w h => List.mem_cons_of_mem _ (List.mem_append_right _ (List.mem_append_left _ h))
theorem hbX11_testItem_X4_isItemOf : ∀ w ∈ wvX4_isItemOf, w ∈ wvX11_testItem := fun w h => List.mem_cons_of_mem _ (List.mem_append_right _ (List.mem_append_right _ (List.mem_append_left _ h)))
theorem hbX11_testItem_X4_isEdgeAgain : ∀ w ∈ wvX4_isEdgeAgain, w ∈ wvX11_testItem := fun w h => List.mem_cons_of_mem _ (List.mem_append_right _ (List.mem_append_right _ (List.mem_append_right _ h)))
theorem gdX11_testItem : ∀ w ∈ wvX11_testItem, wkGd w := wkGdC rfl (wkGdA (wkGdL (by decide +kernel)) (wkGdA gdX11 (wkGdA gdX4_isItemOf gdX4_isEdgeAgain)))
def rX11_testItem (F : Nat) (k n : Nat) (l0A : Nat) (l1A : Nat) (l2I : Int32) (S : wPS) (Φ : (Unit → wPS → Prop)) (Ψ : String → wPS → Prop) : Prop :=
  rX4_isItemOf F (wkAd (gWitnessworks_house S l0A)) l1A l2I (wkAd (gWitnessworks_told S l0A)) S fun v1 S2 => if v1 = 0 then (0 + 1 ≤ k ∧ 0 + 6 ≤ n ∧ Ψ "java/lang/IllegalArgumentException" S2) else (rX4_isEdgeAgain F (wkAd (gWitnessworks_house S2 l0A)) l1A l2I (wkAd (gWitnessworks_told S2 l0A)) S2 fun v7 S8 => if v7 = 0 then (Φ () S8) else (0 + 1 ≤ k ∧ 0 + 6 ≤ n ∧ Ψ "java/lang/UnsupportedOperationException" S8))
set_option maxHeartbeats 4000000 in
set_option maxRecDepth 100000 in
theorem tX11_testItem {l : Launch} {g : wkG} {F : Nat} {k n : Nat}  {S : wPS} {l0A : Nat} {l1A : Nat} {l2I : Int32} {Φ : (Unit → wPS → Prop)} {Ψ : String → wPS → Prop} (hex : wkExA g) (hlt : l.stackTraces = false) (hW : wkWF S) (hl0A : wkIs S l0A 11) (hl1A : wkIs S l1A 3) (h : rX11_testItem F k n l0A l1A l2I S Φ Ψ) : wkMetX l g yX11_testItem wvX11_testItem 6 k n [.ref l0A, .ref l1A, .int l2I] S (fun v' S'' => ∃ v : Unit, v' = none ∧ Φ v S'' ∧ wkWF S'' ∧ wkExt S S'') (fun E S'' => Ψ E S'' ∧ wkWF S'' ∧ wkExt S S'') := by
  refine wkMetX_of (ret := none) (by decide) rfl (Nat.le_of_ble_eq_true rfl) rfl hex hlt (by decide) (fun X hg C hR E EX ET => ?_)
  subst hg
  have hE : wkExt S S := wkExt.rf
  have hd : 6 ≤ 6 := Nat.le_refl _
  show wkGo l X 3 0 0 0 S [some (.ref l0A), some (.ref l1A), some (.int l2I)] []
  unfold rX11_testItem at h
  refine wk_aload_n C dX11_testItem_0 rfl rfl ?_
  refine wk_get C huX11_testItem_11 hl0A.1 (fun cy => wAt_11 cy _ hl0A.2) rfl 0 (by decide) (List.mem_of_getElem? (i := 1) rfl) rfl (congrArg some (congrArg va_rf (wf_Witnessworks_house hW hl0A).1)) dX11_testItem_1 ?_
  refine wk_aload_n C dX11_testItem_4 rfl rfl ?_
  refine wk_iload_n C dX11_testItem_5 rfl rfl ?_
  refine wk_aload_n C dX11_testItem_6 rfl rfl ?_
  refine wk_get C huX11_testItem_11 hl0A.1 (fun cy => wAt_11 cy _ hl0A.2) rfl 4 (by decide) (List.mem_of_getElem? (i := 2) rfl) rfl (congrArg some (congrArg va_rf (wf_Witnessworks_told hW hl0A).1)) dX11_testItem_7 ?_
  refine wk_callV C hR (As := [.ref l1A, .int l2I, .ref (wkAd (gWitnessworks_told S l0A))]) (cnt := 3) (tX4_isItemOf (l := l) hW (wf_Witnessworks_house hW hl0A).2 hl1A (wf_Witnessworks_told hW hl0A).2 h) rfl (wkGoodV (List.mem_of_getElem? (i := 3) rfl) (List.mem_of_getElem? (i := 4) rfl) (List.mem_of_getElem? (i := 5) rfl) (List.mem_of_getElem? (i := 6) rfl) hbX11_testItem_X4_isItemOf gdX4_isItemOf) (Nat.le_trans (by decide : 2 + 1 ≤ 6) hd) (by decide) (wf_Witnessworks_house hW hl0A).2.1 (fun cy => wAt_4 cy _ (wf_Witnessworks_house hW hl0A).2.2) rfl ⟨by decide, by decide, by decide +kernel⟩ rfl rfl (Nat.le_of_ble_eq_true rfl) (Nat.zero_le _) (Nat.zero_le _) dX11_testItem_10 (fun v' S2 hp => ?_)
  obtain ⟨v1, rfl, h, hWS2, hXS2⟩ := hp
  refine wk_if_ne C (tgt := 27) dX11_testItem_13 (by decide) (fun c6 => ?_) (fun c6 => ?_)
  · rw [if_neg c6] at h
    refine wk_aload_n C dX11_testItem_27 rfl rfl ?_
    refine wk_get C huX11_testItem_11 (hXS2 _ _ hl0A).1 (fun cy => wAt_11 cy _ (hXS2 _ _ hl0A).2) rfl 0 (by decide) (List.mem_of_getElem? (i := 1) rfl) rfl (congrArg some (congrArg va_rf (wf_Witnessworks_house hWS2 (hXS2 _ _ hl0A)).1)) dX11_testItem_28 ?_
    refine wk_aload_n C dX11_testItem_31 rfl rfl ?_
    refine wk_iload_n C dX11_testItem_32 rfl rfl ?_
    refine wk_aload_n C dX11_testItem_33 rfl rfl ?_
    refine wk_get C huX11_testItem_11 (hXS2 _ _ hl0A).1 (fun cy => wAt_11 cy _ (hXS2 _ _ hl0A).2) rfl 4 (by decide) (List.mem_of_getElem? (i := 2) rfl) rfl (congrArg some (congrArg va_rf (wf_Witnessworks_told hWS2 (hXS2 _ _ hl0A)).1)) dX11_testItem_34 ?_
    refine wk_callV C hR (As := [.ref l1A, .int l2I, .ref (wkAd (gWitnessworks_told S2 l0A))]) (cnt := 3) (tX4_isEdgeAgain (l := l) hWS2 (wf_Witnessworks_house hWS2 (hXS2 _ _ hl0A)).2 (hXS2 _ _ hl1A) (wf_Witnessworks_told hWS2 (hXS2 _ _ hl0A)).2 h) rfl (wkGoodV (List.mem_of_getElem? (i := 7) rfl) (List.mem_of_getElem? (i := 8) rfl) (List.mem_of_getElem? (i := 9) rfl) (List.mem_of_getElem? (i := 6) rfl) hbX11_testItem_X4_isEdgeAgain gdX4_isEdgeAgain) (Nat.le_trans (by decide : 1 + 1 ≤ 6) hd) (by decide) (wf_Witnessworks_house hWS2 (hXS2 _ _ hl0A)).2.1 (fun cy => wAt_4 cy _ (wf_Witnessworks_house hWS2 (hXS2 _ _ hl0A)).2.2) rfl ⟨by decide, by decide, by decide +kernel⟩ rfl rfl (Nat.le_of_ble_eq_true rfl) (Nat.zero_le _) (Nat.zero_le _) dX11_testItem_37 (fun v' S8 hp => ?_)
    obtain ⟨v7, rfl, h, hWS8, hXS8⟩ := hp
    refine wk_if_eq C (tgt := 54) dX11_testItem_40 (by decide) (fun c12 => ?_) (fun c12 => ?_)
    · rw [if_pos c12] at h
      exact E _ _ _ _ _ (Nat.zero_le _) (Nat.zero_le _) dX11_testItem_54 ⟨(), rfl, h, hWS8, (wkExt.tr (wkExt.tr hE hXS2) hXS8)⟩
    · rw [if_neg c12] at h
      obtain ⟨t13a, t13b, h⟩ := h
      exact ET _ _ _ _ _ _ (166, 489, 170, "java/lang/UnsupportedOperationException", "another item is between these two") (by decide +kernel) (Nat.le_of_ble_eq_true rfl) (Or.inr ⟨dX11_testItem_43, dX11_testItem_46, dX11_testItem_47, dX11_testItem_50, dX11_testItem_53⟩) ⟨h, hWS8, (wkExt.tr (wkExt.tr hE hXS2) hXS8)⟩ t13a t13b
  · rw [if_pos c6] at h
    obtain ⟨t14a, t14b, h⟩ := h
    exact ET _ _ _ _ _ _ (79, 484, 83, "java/lang/IllegalArgumentException", "a number is not as its kind tells") (by decide +kernel) (Nat.le_of_ble_eq_true rfl) (Or.inr ⟨dX11_testItem_16, dX11_testItem_19, dX11_testItem_20, dX11_testItem_23, dX11_testItem_26⟩) ⟨h, hWS2, (wkExt.tr hE hXS2)⟩ t14a t14b
def wvX11_settleEntry : List Cond := .code yX11_settleEntry cX11_settleEntry 3 none :: (([.fieldLink RX11 428 "Witnessworks$Entry" "wasSettled" "Z", .fieldLink RX11 221 "Witnessworks$Entry" "reply" "C", .fieldLink RX11 431 "Witnessworks$Entry" "settledReply" "C", .fieldLink RX11 434 "Witnessworks$Entry" "settledRow" "LWitnessworks$Row;", .fieldLink RX11 227 "Witnessworks$Entry" "row" "LWitnessworks$Row;", .methodLink RX11 362 yX9_copy, .instanceMethod yX9_copy, .selects RX9 yX9_copy yX9_copy, .initialized RX9, .methodLink RX11 437 yX9_isLike, .instanceMethod yX9_isLike, .selects RX9 yX9_isLike yX9_isLike, .methodLink RX11 515 yX9_firstUnlike, .instanceMethod yX9_firstUnlike, .selects RX9 yX9_firstUnlike yX9_firstUnlike, .methodLink RX11 511 yX11_addError, .instanceMethod yX11_addError, .selects RX11 yX11_addError yX11_addError, .initialized RX11] : List Cond) ++ ((wsX30) ++ (wvX9_copy ++ (wvX9_isLike ++ (wvX9_firstUnlike ++ (wvX11_addError))))))
theorem huX11_settleEntry_3 : ∀ w ∈ u_ws RX3 TX3 17, w ∈ wvX11_settleEntry := fun w h => List.mem_cons_of_mem _ (List.mem_append_right _ (List.mem_append_left _ h))
theorem hbX11_settleEntry_X9_copy : ∀ w ∈ wvX9_copy, w ∈ wvX11_settleEntry := fun w h => List.mem_cons_of_mem _ (List.mem_append_right _ (List.mem_append_right _ (List.mem_append_left _ h)))
theorem hbX11_settleEntry_X9_isLike : ∀ w ∈ wvX9_isLike, w ∈ wvX11_settleEntry := fun w h => List.mem_cons_of_mem _ (List.mem_append_right _ (List.mem_append_right _ (List.mem_append_right _ (List.mem_append_left _ h))))
theorem hbX11_settleEntry_X9_firstUnlike : ∀ w ∈ wvX9_firstUnlike, w ∈ wvX11_settleEntry := fun w h => List.mem_cons_of_mem _ (List.mem_append_right _ (List.mem_append_right _ (List.mem_append_right _ (List.mem_append_right _ (List.mem_append_left _ h)))))
theorem hbX11_settleEntry_X11_addError : ∀ w ∈ wvX11_addError, w ∈ wvX11_settleEntry := fun w h => List.mem_cons_of_mem _ (List.mem_append_right _ (List.mem_append_right _ (List.mem_append_right _ (List.mem_append_right _ (List.mem_append_right _ h)))))
theorem gdX11_settleEntry : ∀ w ∈ wvX11_settleEntry, wkGd w := wkGdC rfl (wkGdA (wkGdL (by decide +kernel)) (wkGdA gdX3 (wkGdA gdX9_copy (wkGdA gdX9_isLike (wkGdA gdX9_firstUnlike gdX11_addError)))))
def rX11_settleEntry_b0 (F : Nat) (k n : Nat) (rec : Nat → Nat → Nat → Nat → Int32 → Nat → wPS → (Unit → wPS → Prop) → Prop) (c s : Nat) (l0A : Nat) (l1I : Int32) (l2A : Nat) (S : wPS) (Φ : (Unit → wPS → Prop)) : Prop :=
  if (gEntry_wasSettled S l2A) = 0 then (wkLt (wu_Entry_wasSettled S l2A (1 : Int32)) fun S2 => (((gEntry_reply S2 l2A) : Int32).toUInt32 % 65536).toInt32 = (gEntry_reply S2 l2A) ∧ wkLt (wu_Entry_settledReply S2 l2A (gEntry_reply S2 l2A)) fun S4 => ∃ k8 n9 : Nat, c + k8 ≤ k ∧ s + n9 ≤ n ∧ rX9_copy F k8 n9 (wkAd (gEntry_settledRow S4 l2A)) (wkAd (gEntry_row S4 l2A)) S4 fun v5 S6 => Φ () S6) else (rX9_isLike F (wkAd (gEntry_row S l2A)) (wkAd (gEntry_settledRow S l2A)) S fun v10 S11 => if v10 = 0 then (rX9_firstUnlike F (wkAd (gEntry_row S11 l2A)) (wkAd (gEntry_settledRow S11 l2A)) S11 fun v24 S25 => ∃ k32 n33 : Nat, c + k32 ≤ k ∧ s + n33 ≤ n ∧ rX11_addError F k32 n33 l0A l1I (114 : Int32) v24 S25 fun v29 S30 => wkLt (wu_Entry_wasSettled S30 l2A (1 : Int32)) fun S34 => (((gEntry_reply S34 l2A) : Int32).toUInt32 % 65536).toInt32 = (gEntry_reply S34 l2A) ∧ wkLt (wu_Entry_settledReply S34 l2A (gEntry_reply S34 l2A)) fun S36 => ∃ k40 n41 : Nat, (c + k32) + k40 ≤ k ∧ (s + n33) + n41 ≤ n ∧ rX9_copy F k40 n41 (wkAd (gEntry_settledRow S36 l2A)) (wkAd (gEntry_row S36 l2A)) S36 fun v37 S38 => Φ () S38) else (wkLt (wu_Entry_wasSettled S11 l2A (1 : Int32)) fun S16 => (((gEntry_reply S16 l2A) : Int32).toUInt32 % 65536).toInt32 = (gEntry_reply S16 l2A) ∧ wkLt (wu_Entry_settledReply S16 l2A (gEntry_reply S16 l2A)) fun S18 => ∃ k22 n23 : Nat, c + k22 ≤ k ∧ s + n23 ≤ n ∧ rX9_copy F k22 n23 (wkAd (gEntry_settledRow S18 l2A)) (wkAd (gEntry_row S18 l2A)) S18 fun v19 S20 => Φ () S20))
def rX11_settleEntry_go (F : Nat) (k n : Nat) : Nat → Nat → Nat → Nat → Nat → Int32 → Nat → wPS → (Unit → wPS → Prop) → Prop
  | 0, _, _, _, _, _, _, _, _ => False
  | k' + 1, lab, c, s, l0A, l1I, l2A, S, Φ => if lab = 0 then rX11_settleEntry_b0 F k n (rX11_settleEntry_go F k n k') c s l0A l1I l2A S Φ else False
def rX11_settleEntry_s (F : Nat) (k n : Nat) (rec : Nat → Nat → Nat → Nat → Int32 → Nat → wPS → (Unit → wPS → Prop) → Prop) (l0A : Nat) (l1I : Int32) (l2A : Nat) (S : wPS) (Φ : (Unit → wPS → Prop)) : Prop :=
  if (gEntry_wasSettled S l2A) = 0 then (rec 0 0 0 l0A l1I l2A S Φ) else (if (gEntry_reply S l2A) = (gEntry_settledReply S l2A) then (rec 0 0 0 l0A l1I l2A S Φ) else (∃ k47 n48 : Nat, 0 + k47 ≤ k ∧ 0 + n48 ≤ n ∧ rX11_addError F k47 n48 l0A l1I (gEntry_reply S l2A) (0 : Int32) S fun v44 S45 => wkLt (wu_Entry_wasSettled S45 l2A (1 : Int32)) fun S49 => (((gEntry_reply S49 l2A) : Int32).toUInt32 % 65536).toInt32 = (gEntry_reply S49 l2A) ∧ wkLt (wu_Entry_settledReply S49 l2A (gEntry_reply S49 l2A)) fun S51 => ∃ k55 n56 : Nat, (0 + k47) + k55 ≤ k ∧ (0 + n48) + n56 ≤ n ∧ rX9_copy F k55 n56 (wkAd (gEntry_settledRow S51 l2A)) (wkAd (gEntry_row S51 l2A)) S51 fun v52 S53 => Φ () S53))
def rX11_settleEntry (F : Nat) (k n : Nat) (l0A : Nat) (l1I : Int32) (l2A : Nat) (S : wPS) (Φ : (Unit → wPS → Prop)) : Prop := rX11_settleEntry_s F k n (rX11_settleEntry_go F k n F) l0A l1I l2A S Φ
set_option maxHeartbeats 4000000 in
set_option maxRecDepth 100000 in
theorem tX11_settleEntry_go {k n : Nat} {l : Launch} {X : wkX} {d F : Nat} {S0 : wPS} {Φ : (Unit → wPS → Prop)} (C : wkC X cX11_settleEntry RX11 3 wvX11_settleEntry) (hR : wkRm X d k n) (hd : 3 ≤ d) (E : wkEnd l X cX11_settleEntry 3 none k n (fun v' S'' => ∃ v : Unit, v' = none ∧ Φ v S'' ∧ wkWF S'' ∧ wkExt S0 S'')) : ∀ k' : Nat, (∀ (c s : Nat), c ≤ k → s ≤ n → ∀ (l0A : Nat) (l1I : Int32) (l2A : Nat) (S : wPS), wkWF S → wkExt S0 S → wkIs S l0A 11 → wkIs S l2A 3 → rX11_settleEntry_go F k n k' 0 c s l0A l1I l2A S Φ → wkGo l X 3 c s 31 S [some (.ref l0A), some (.int l1I), some (.ref l2A)] []) := by
  intro k'
  induction k' with
  | zero => exact fun c s hc hs l0A l1I l2A S hW hE hl0A hl2A h => h.elim
  | succ k' ih =>
    · intro c s hc hs l0A l1I l2A S hW hE hl0A hl2A h
      have h : rX11_settleEntry_b0 F k n (rX11_settleEntry_go F k n k') c s l0A l1I l2A S Φ := by
        rw [rX11_settleEntry_go, if_pos (rfl : (0 : Nat) = 0)] at h
        exact h
      unfold rX11_settleEntry_b0 at h
      refine wk_aload_n C dX11_settleEntry_31 rfl rfl ?_
      refine wk_get C (v := .int (gEntry_wasSettled S l2A)) huX11_settleEntry_3 hl2A.1 (fun cy => wAt_3 cy _ hl2A.2) rfl 14 (by decide) (List.mem_of_getElem? (i := 1) rfl) rfl rfl dX11_settleEntry_32 ?_
      refine wk_if_eq C (tgt := 70) dX11_settleEntry_35 (by decide) (fun c1 => ?_) (fun c1 => ?_)
      · rw [if_pos c1] at h
        refine wk_aload_n C dX11_settleEntry_70 rfl rfl ?_
        refine wk_iconst C (v := 1) dX11_settleEntry_71 (by decide) ?_
        obtain ⟨S2, eS2, h⟩ := wkLt_some h
        refine wk_put C (S' := S2) huX11_settleEntry_3 hl2A.1 (fun cy => wAt_3 cy _ hl2A.2) rfl 14 (by decide) (List.mem_of_getElem? (i := 1) rfl) rfl tyX3_ok nmX3 rfl (ty := .boolean) rfl rfl rfl (by show 14 < 17; decide) (fun cy b => by rw [eS2]; exact wSt_3_14 cy _ hl2A.2 _ b) (by rw [eS2]) dX11_settleEntry_72 ?_
        have hWS2 : wkWF S2 := by rw [eS2]; exact hW
        have hXS2 : wkExt S S2 := by rw [eS2]; exact wkExt.rf
        refine wk_aload_n C dX11_settleEntry_75 rfl rfl ?_
        refine wk_aload_n C dX11_settleEntry_76 rfl rfl ?_
        refine wk_get C (v := .int (gEntry_reply S2 l2A)) huX11_settleEntry_3 (hXS2 _ _ hl2A).1 (fun cy => wAt_3 cy _ (hXS2 _ _ hl2A).2) rfl 11 (by decide) (List.mem_of_getElem? (i := 2) rfl) rfl rfl dX11_settleEntry_77 ?_
        obtain ⟨b3, h⟩ := h
        obtain ⟨S4, eS4, h⟩ := wkLt_some h
        refine wk_put C (S' := S4) huX11_settleEntry_3 (hXS2 _ _ hl2A).1 (fun cy => wAt_3 cy _ (hXS2 _ _ hl2A).2) rfl 15 (by decide) (List.mem_of_getElem? (i := 3) rfl) rfl tyX3_ok nmX3 rfl (ty := .char) rfl (wkNarC b3) (wkFitC b3) (by show 15 < 17; decide) (fun cy b => by rw [eS4]; exact wSt_3_15 cy _ (hXS2 _ _ hl2A).2 _ b) (by rw [eS4]) dX11_settleEntry_80 ?_
        have hWS4 : wkWF S4 := by rw [eS4]; exact hWS2
        have hXS4 : wkExt S2 S4 := by rw [eS4]; exact wkExt.rf
        refine wk_aload_n C dX11_settleEntry_83 rfl rfl ?_
        refine wk_get C huX11_settleEntry_3 (hXS4 _ _ (hXS2 _ _ hl2A)).1 (fun cy => wAt_3 cy _ (hXS4 _ _ (hXS2 _ _ hl2A)).2) rfl 16 (by decide) (List.mem_of_getElem? (i := 4) rfl) rfl (congrArg some (congrArg va_rf (wf_Entry_settledRow hWS4 (hXS4 _ _ (hXS2 _ _ hl2A))).1)) dX11_settleEntry_84 ?_
        refine wk_aload_n C dX11_settleEntry_87 rfl rfl ?_
        refine wk_get C huX11_settleEntry_3 (hXS4 _ _ (hXS2 _ _ hl2A)).1 (fun cy => wAt_3 cy _ (hXS4 _ _ (hXS2 _ _ hl2A)).2) rfl 13 (by decide) (List.mem_of_getElem? (i := 5) rfl) rfl (congrArg some (congrArg va_rf (wf_Entry_row hWS4 (hXS4 _ _ (hXS2 _ _ hl2A))).1)) dX11_settleEntry_88 ?_
        obtain ⟨k8, n9, hk8, hn9, h⟩ := h
        refine wk_callV C hR (As := [.ref (wkAd (gEntry_row S4 l2A))]) (cnt := 1) (tX9_copy (l := l) hWS4 (wf_Entry_settledRow hWS4 (hXS4 _ _ (hXS2 _ _ hl2A))).2 (wf_Entry_row hWS4 (hXS4 _ _ (hXS2 _ _ hl2A))).2 h) rfl (wkGoodV (List.mem_of_getElem? (i := 6) rfl) (List.mem_of_getElem? (i := 7) rfl) (List.mem_of_getElem? (i := 8) rfl) (List.mem_of_getElem? (i := 9) rfl) hbX11_settleEntry_X9_copy gdX9_copy) (Nat.le_trans (by decide : 1 + 1 ≤ 3) hd) (by decide) (wf_Entry_settledRow hWS4 (hXS4 _ _ (hXS2 _ _ hl2A))).2.1 (fun cy => wAt_9 cy _ (wf_Entry_settledRow hWS4 (hXS4 _ _ (hXS2 _ _ hl2A))).2.2) rfl ⟨by decide, by decide, by decide +kernel⟩ rfl rfl (Nat.le_of_ble_eq_true rfl) hk8 hn9 dX11_settleEntry_91 (fun v' S6 hp => ?_)
        obtain ⟨v5, rfl, h, hWS6, hXS6⟩ := hp
        exact E _ _ _ _ _ hk8 hn9 dX11_settleEntry_94 ⟨(), rfl, h, hWS6, (wkExt.tr (wkExt.tr (wkExt.tr hE hXS2) hXS4) hXS6)⟩
      · rw [if_neg c1] at h
        refine wk_aload_n C dX11_settleEntry_38 rfl rfl ?_
        refine wk_get C huX11_settleEntry_3 hl2A.1 (fun cy => wAt_3 cy _ hl2A.2) rfl 13 (by decide) (List.mem_of_getElem? (i := 5) rfl) rfl (congrArg some (congrArg va_rf (wf_Entry_row hW hl2A).1)) dX11_settleEntry_39 ?_
        refine wk_aload_n C dX11_settleEntry_42 rfl rfl ?_
        refine wk_get C huX11_settleEntry_3 hl2A.1 (fun cy => wAt_3 cy _ hl2A.2) rfl 16 (by decide) (List.mem_of_getElem? (i := 4) rfl) rfl (congrArg some (congrArg va_rf (wf_Entry_settledRow hW hl2A).1)) dX11_settleEntry_43 ?_
        refine wk_callV C hR (As := [.ref (wkAd (gEntry_settledRow S l2A))]) (cnt := 1) (tX9_isLike (l := l) hW (wf_Entry_row hW hl2A).2 (wf_Entry_settledRow hW hl2A).2 h) rfl (wkGoodV (List.mem_of_getElem? (i := 10) rfl) (List.mem_of_getElem? (i := 11) rfl) (List.mem_of_getElem? (i := 12) rfl) (List.mem_of_getElem? (i := 9) rfl) hbX11_settleEntry_X9_isLike gdX9_isLike) (Nat.le_trans (by decide : 2 + 1 ≤ 3) hd) (by decide) (wf_Entry_row hW hl2A).2.1 (fun cy => wAt_9 cy _ (wf_Entry_row hW hl2A).2.2) rfl ⟨by decide, by decide, by decide +kernel⟩ rfl rfl (Nat.le_of_ble_eq_true rfl) hc hs dX11_settleEntry_46 (fun v' S11 hp => ?_)
        obtain ⟨v10, rfl, h, hWS11, hXS11⟩ := hp
        refine wk_if_ne C (tgt := 70) dX11_settleEntry_49 (by decide) (fun c15 => ?_) (fun c15 => ?_)
        · rw [if_neg c15] at h
          refine wk_aload_n C dX11_settleEntry_70 rfl rfl ?_
          refine wk_iconst C (v := 1) dX11_settleEntry_71 (by decide) ?_
          obtain ⟨S16, eS16, h⟩ := wkLt_some h
          refine wk_put C (S' := S16) huX11_settleEntry_3 (hXS11 _ _ hl2A).1 (fun cy => wAt_3 cy _ (hXS11 _ _ hl2A).2) rfl 14 (by decide) (List.mem_of_getElem? (i := 1) rfl) rfl tyX3_ok nmX3 rfl (ty := .boolean) rfl rfl rfl (by show 14 < 17; decide) (fun cy b => by rw [eS16]; exact wSt_3_14 cy _ (hXS11 _ _ hl2A).2 _ b) (by rw [eS16]) dX11_settleEntry_72 ?_
          have hWS16 : wkWF S16 := by rw [eS16]; exact hWS11
          have hXS16 : wkExt S11 S16 := by rw [eS16]; exact wkExt.rf
          refine wk_aload_n C dX11_settleEntry_75 rfl rfl ?_
          refine wk_aload_n C dX11_settleEntry_76 rfl rfl ?_
          refine wk_get C (v := .int (gEntry_reply S16 l2A)) huX11_settleEntry_3 (hXS16 _ _ (hXS11 _ _ hl2A)).1 (fun cy => wAt_3 cy _ (hXS16 _ _ (hXS11 _ _ hl2A)).2) rfl 11 (by decide) (List.mem_of_getElem? (i := 2) rfl) rfl rfl dX11_settleEntry_77 ?_
          obtain ⟨b17, h⟩ := h
          obtain ⟨S18, eS18, h⟩ := wkLt_some h
          refine wk_put C (S' := S18) huX11_settleEntry_3 (hXS16 _ _ (hXS11 _ _ hl2A)).1 (fun cy => wAt_3 cy _ (hXS16 _ _ (hXS11 _ _ hl2A)).2) rfl 15 (by decide) (List.mem_of_getElem? (i := 3) rfl) rfl tyX3_ok nmX3 rfl (ty := .char) rfl (wkNarC b17) (wkFitC b17) (by show 15 < 17; decide) (fun cy b => by rw [eS18]; exact wSt_3_15 cy _ (hXS16 _ _ (hXS11 _ _ hl2A)).2 _ b) (by rw [eS18]) dX11_settleEntry_80 ?_
          have hWS18 : wkWF S18 := by rw [eS18]; exact hWS16
          have hXS18 : wkExt S16 S18 := by rw [eS18]; exact wkExt.rf
          refine wk_aload_n C dX11_settleEntry_83 rfl rfl ?_
          refine wk_get C huX11_settleEntry_3 (hXS18 _ _ (hXS16 _ _ (hXS11 _ _ hl2A))).1 (fun cy => wAt_3 cy _ (hXS18 _ _ (hXS16 _ _ (hXS11 _ _ hl2A))).2) rfl 16 (by decide) (List.mem_of_getElem? (i := 4) rfl) rfl (congrArg some (congrArg va_rf (wf_Entry_settledRow hWS18 (hXS18 _ _ (hXS16 _ _ (hXS11 _ _ hl2A)))).1)) dX11_settleEntry_84 ?_
          refine wk_aload_n C dX11_settleEntry_87 rfl rfl ?_
          refine wk_get C huX11_settleEntry_3 (hXS18 _ _ (hXS16 _ _ (hXS11 _ _ hl2A))).1 (fun cy => wAt_3 cy _ (hXS18 _ _ (hXS16 _ _ (hXS11 _ _ hl2A))).2) rfl 13 (by decide) (List.mem_of_getElem? (i := 5) rfl) rfl (congrArg some (congrArg va_rf (wf_Entry_row hWS18 (hXS18 _ _ (hXS16 _ _ (hXS11 _ _ hl2A)))).1)) dX11_settleEntry_88 ?_
          obtain ⟨k22, n23, hk22, hn23, h⟩ := h
          refine wk_callV C hR (As := [.ref (wkAd (gEntry_row S18 l2A))]) (cnt := 1) (tX9_copy (l := l) hWS18 (wf_Entry_settledRow hWS18 (hXS18 _ _ (hXS16 _ _ (hXS11 _ _ hl2A)))).2 (wf_Entry_row hWS18 (hXS18 _ _ (hXS16 _ _ (hXS11 _ _ hl2A)))).2 h) rfl (wkGoodV (List.mem_of_getElem? (i := 6) rfl) (List.mem_of_getElem? (i := 7) rfl) (List.mem_of_getElem? (i := 8) rfl) (List.mem_of_getElem? (i := 9) rfl) hbX11_settleEntry_X9_copy gdX9_copy) (Nat.le_trans (by decide : 1 + 1 ≤ 3) hd) (by decide) (wf_Entry_settledRow hWS18 (hXS18 _ _ (hXS16 _ _ (hXS11 _ _ hl2A)))).2.1 (fun cy => wAt_9 cy _ (wf_Entry_settledRow hWS18 (hXS18 _ _ (hXS16 _ _ (hXS11 _ _ hl2A)))).2.2) rfl ⟨by decide, by decide, by decide +kernel⟩ rfl rfl (Nat.le_of_ble_eq_true rfl) hk22 hn23 dX11_settleEntry_91 (fun v' S20 hp => ?_)
          obtain ⟨v19, rfl, h, hWS20, hXS20⟩ := hp
          exact E _ _ _ _ _ hk22 hn23 dX11_settleEntry_94 ⟨(), rfl, h, hWS20, (wkExt.tr (wkExt.tr (wkExt.tr (wkExt.tr hE hXS11) hXS16) hXS18) hXS20)⟩
        · rw [if_pos c15] at h
          refine wk_aload_n C dX11_settleEntry_52 rfl rfl ?_
          refine wk_iload_n C dX11_settleEntry_53 rfl rfl ?_
          refine wk_bipush C (v := 114) dX11_settleEntry_54 (by decide) ?_
          refine wk_aload_n C dX11_settleEntry_56 rfl rfl ?_
          refine wk_get C huX11_settleEntry_3 (hXS11 _ _ hl2A).1 (fun cy => wAt_3 cy _ (hXS11 _ _ hl2A).2) rfl 13 (by decide) (List.mem_of_getElem? (i := 5) rfl) rfl (congrArg some (congrArg va_rf (wf_Entry_row hWS11 (hXS11 _ _ hl2A)).1)) dX11_settleEntry_57 ?_
          refine wk_aload_n C dX11_settleEntry_60 rfl rfl ?_
          refine wk_get C huX11_settleEntry_3 (hXS11 _ _ hl2A).1 (fun cy => wAt_3 cy _ (hXS11 _ _ hl2A).2) rfl 16 (by decide) (List.mem_of_getElem? (i := 4) rfl) rfl (congrArg some (congrArg va_rf (wf_Entry_settledRow hWS11 (hXS11 _ _ hl2A)).1)) dX11_settleEntry_61 ?_
          refine wk_callV C hR (As := [.ref (wkAd (gEntry_settledRow S11 l2A))]) (cnt := 1) (tX9_firstUnlike (l := l) hWS11 (wf_Entry_row hWS11 (hXS11 _ _ hl2A)).2 (wf_Entry_settledRow hWS11 (hXS11 _ _ hl2A)).2 h) rfl (wkGoodV (List.mem_of_getElem? (i := 13) rfl) (List.mem_of_getElem? (i := 14) rfl) (List.mem_of_getElem? (i := 15) rfl) (List.mem_of_getElem? (i := 9) rfl) hbX11_settleEntry_X9_firstUnlike gdX9_firstUnlike) (Nat.le_trans (by decide : 1 + 1 ≤ 3) hd) (by decide) (wf_Entry_row hWS11 (hXS11 _ _ hl2A)).2.1 (fun cy => wAt_9 cy _ (wf_Entry_row hWS11 (hXS11 _ _ hl2A)).2.2) rfl ⟨by decide, by decide, by decide +kernel⟩ rfl rfl (Nat.le_of_ble_eq_true rfl) hc hs dX11_settleEntry_64 (fun v' S25 hp => ?_)
          obtain ⟨v24, rfl, h, hWS25, hXS25⟩ := hp
          obtain ⟨k32, n33, hk32, hn33, h⟩ := h
          refine wk_callV C hR (As := [.int l1I, .int (114 : Int32), .int v24]) (cnt := 3) (tX11_addError (l := l) hWS25 (hXS25 _ _ (hXS11 _ _ hl0A)) h) rfl (wkGoodV (List.mem_of_getElem? (i := 16) rfl) (List.mem_of_getElem? (i := 17) rfl) (List.mem_of_getElem? (i := 18) rfl) (List.mem_of_getElem? (i := 19) rfl) hbX11_settleEntry_X11_addError gdX11_addError) (Nat.le_trans (by decide : 2 + 1 ≤ 3) hd) (by decide) (hXS25 _ _ (hXS11 _ _ hl0A)).1 (fun cy => wAt_11 cy _ (hXS25 _ _ (hXS11 _ _ hl0A)).2) rfl ⟨by decide, by decide, by decide +kernel⟩ rfl rfl (Nat.le_of_ble_eq_true rfl) hk32 hn33 dX11_settleEntry_67 (fun v' S30 hp => ?_)
          obtain ⟨v29, rfl, h, hWS30, hXS30⟩ := hp
          refine wk_aload_n C dX11_settleEntry_70 rfl rfl ?_
          refine wk_iconst C (v := 1) dX11_settleEntry_71 (by decide) ?_
          obtain ⟨S34, eS34, h⟩ := wkLt_some h
          refine wk_put C (S' := S34) huX11_settleEntry_3 (hXS30 _ _ (hXS25 _ _ (hXS11 _ _ hl2A))).1 (fun cy => wAt_3 cy _ (hXS30 _ _ (hXS25 _ _ (hXS11 _ _ hl2A))).2) rfl 14 (by decide) (List.mem_of_getElem? (i := 1) rfl) rfl tyX3_ok nmX3 rfl (ty := .boolean) rfl rfl rfl (by show 14 < 17; decide) (fun cy b => by rw [eS34]; exact wSt_3_14 cy _ (hXS30 _ _ (hXS25 _ _ (hXS11 _ _ hl2A))).2 _ b) (by rw [eS34]) dX11_settleEntry_72 ?_
          have hWS34 : wkWF S34 := by rw [eS34]; exact hWS30
          have hXS34 : wkExt S30 S34 := by rw [eS34]; exact wkExt.rf
          refine wk_aload_n C dX11_settleEntry_75 rfl rfl ?_
          refine wk_aload_n C dX11_settleEntry_76 rfl rfl ?_
          refine wk_get C (v := .int (gEntry_reply S34 l2A)) huX11_settleEntry_3 (hXS34 _ _ (hXS30 _ _ (hXS25 _ _ (hXS11 _ _ hl2A)))).1 (fun cy => wAt_3 cy _ (hXS34 _ _ (hXS30 _ _ (hXS25 _ _ (hXS11 _ _ hl2A)))).2) rfl 11 (by decide) (List.mem_of_getElem? (i := 2) rfl) rfl rfl dX11_settleEntry_77 ?_
          obtain ⟨b35, h⟩ := h
          obtain ⟨S36, eS36, h⟩ := wkLt_some h
          refine wk_put C (S' := S36) huX11_settleEntry_3 (hXS34 _ _ (hXS30 _ _ (hXS25 _ _ (hXS11 _ _ hl2A)))).1 (fun cy => wAt_3 cy _ (hXS34 _ _ (hXS30 _ _ (hXS25 _ _ (hXS11 _ _ hl2A)))).2) rfl 15 (by decide) (List.mem_of_getElem? (i := 3) rfl) rfl tyX3_ok nmX3 rfl (ty := .char) rfl (wkNarC b35) (wkFitC b35) (by show 15 < 17; decide) (fun cy b => by rw [eS36]; exact wSt_3_15 cy _ (hXS34 _ _ (hXS30 _ _ (hXS25 _ _ (hXS11 _ _ hl2A)))).2 _ b) (by rw [eS36]) dX11_settleEntry_80 ?_
          have hWS36 : wkWF S36 := by rw [eS36]; exact hWS34
          have hXS36 : wkExt S34 S36 := by rw [eS36]; exact wkExt.rf
          refine wk_aload_n C dX11_settleEntry_83 rfl rfl ?_
          refine wk_get C huX11_settleEntry_3 (hXS36 _ _ (hXS34 _ _ (hXS30 _ _ (hXS25 _ _ (hXS11 _ _ hl2A))))).1 (fun cy => wAt_3 cy _ (hXS36 _ _ (hXS34 _ _ (hXS30 _ _ (hXS25 _ _ (hXS11 _ _ hl2A))))).2) rfl 16 (by decide) (List.mem_of_getElem? (i := 4) rfl) rfl (congrArg some (congrArg va_rf (wf_Entry_settledRow hWS36 (hXS36 _ _ (hXS34 _ _ (hXS30 _ _ (hXS25 _ _ (hXS11 _ _ hl2A)))))).1)) dX11_settleEntry_84 ?_
          refine wk_aload_n C dX11_settleEntry_87 rfl rfl ?_
          refine wk_get C huX11_settleEntry_3 (hXS36 _ _ (hXS34 _ _ (hXS30 _ _ (hXS25 _ _ (hXS11 _ _ hl2A))))).1 (fun cy => wAt_3 cy _ (hXS36 _ _ (hXS34 _ _ (hXS30 _ _ (hXS25 _ _ (hXS11 _ _ hl2A))))).2) rfl 13 (by decide) (List.mem_of_getElem? (i := 5) rfl) rfl (congrArg some (congrArg va_rf (wf_Entry_row hWS36 (hXS36 _ _ (hXS34 _ _ (hXS30 _ _ (hXS25 _ _ (hXS11 _ _ hl2A)))))).1)) dX11_settleEntry_88 ?_
          obtain ⟨k40, n41, hk40, hn41, h⟩ := h
          refine wk_callV C hR (As := [.ref (wkAd (gEntry_row S36 l2A))]) (cnt := 1) (tX9_copy (l := l) hWS36 (wf_Entry_settledRow hWS36 (hXS36 _ _ (hXS34 _ _ (hXS30 _ _ (hXS25 _ _ (hXS11 _ _ hl2A)))))).2 (wf_Entry_row hWS36 (hXS36 _ _ (hXS34 _ _ (hXS30 _ _ (hXS25 _ _ (hXS11 _ _ hl2A)))))).2 h) rfl (wkGoodV (List.mem_of_getElem? (i := 6) rfl) (List.mem_of_getElem? (i := 7) rfl) (List.mem_of_getElem? (i := 8) rfl) (List.mem_of_getElem? (i := 9) rfl) hbX11_settleEntry_X9_copy gdX9_copy) (Nat.le_trans (by decide : 1 + 1 ≤ 3) hd) (by decide) (wf_Entry_settledRow hWS36 (hXS36 _ _ (hXS34 _ _ (hXS30 _ _ (hXS25 _ _ (hXS11 _ _ hl2A)))))).2.1 (fun cy => wAt_9 cy _ (wf_Entry_settledRow hWS36 (hXS36 _ _ (hXS34 _ _ (hXS30 _ _ (hXS25 _ _ (hXS11 _ _ hl2A)))))).2.2) rfl ⟨by decide, by decide, by decide +kernel⟩ rfl rfl (Nat.le_of_ble_eq_true rfl) hk40 hn41 dX11_settleEntry_91 (fun v' S38 hp => ?_)
          obtain ⟨v37, rfl, h, hWS38, hXS38⟩ := hp
          exact E _ _ _ _ _ hk40 hn41 dX11_settleEntry_94 ⟨(), rfl, h, hWS38, (wkExt.tr (wkExt.tr (wkExt.tr (wkExt.tr (wkExt.tr (wkExt.tr hE hXS11) hXS25) hXS30) hXS34) hXS36) hXS38)⟩
set_option maxHeartbeats 4000000 in
set_option maxRecDepth 100000 in
theorem tX11_settleEntry {l : Launch} {g : wkG} {F : Nat} {k n : Nat}  {S : wPS} {l0A : Nat} {l1I : Int32} {l2A : Nat} {Φ : (Unit → wPS → Prop)} (hW : wkWF S) (hl0A : wkIs S l0A 11) (hl2A : wkIs S l2A 3) (h : rX11_settleEntry F k n l0A l1I l2A S Φ) : wkMet l g yX11_settleEntry wvX11_settleEntry 3 k n [.ref l0A, .int l1I, .ref l2A] S (fun v' S'' => ∃ v : Unit, v' = none ∧ Φ v S'' ∧ wkWF S'' ∧ wkExt S S'') := by
  refine wkMet_of (ret := none) (by decide) rfl (Nat.le_of_ble_eq_true rfl) (fun X hg C hR E => ?_)
  subst hg
  have hE : wkExt S S := wkExt.rf
  have hd : 3 ≤ 3 := Nat.le_refl _
  show wkGo l X 3 0 0 0 S [some (.ref l0A), some (.int l1I), some (.ref l2A)] []
  have ih := tX11_settleEntry_go (F := F) C hR hd E F
  have h : rX11_settleEntry_s F k n (rX11_settleEntry_go F k n F) l0A l1I l2A S Φ := h
  unfold rX11_settleEntry_s at h
  refine wk_aload_n C dX11_settleEntry_0 rfl rfl ?_
  refine wk_get C (v := .int (gEntry_wasSettled S l2A)) huX11_settleEntry_3 hl2A.1 (fun cy => wAt_3 cy _ hl2A.2) rfl 14 (by decide) (List.mem_of_getElem? (i := 1) rfl) rfl rfl dX11_settleEntry_1 ?_
  refine wk_if_eq C (tgt := 31) dX11_settleEntry_4 (by decide) (fun c42 => ?_) (fun c42 => ?_)
  · rw [if_pos c42] at h
    exact wk_forget (lv' := [some (.ref l0A), some (.int l1I), some (.ref l2A)]) (wkLs.le ⟨rfl, rfl, rfl, trivial⟩) (ih _ _ (Nat.zero_le _) (Nat.zero_le _) _ _ _ _ hW hE hl0A hl2A h)
  · rw [if_neg c42] at h
    refine wk_aload_n C dX11_settleEntry_7 rfl rfl ?_
    refine wk_get C (v := .int (gEntry_reply S l2A)) huX11_settleEntry_3 hl2A.1 (fun cy => wAt_3 cy _ hl2A.2) rfl 11 (by decide) (List.mem_of_getElem? (i := 2) rfl) rfl rfl dX11_settleEntry_8 ?_
    refine wk_aload_n C dX11_settleEntry_11 rfl rfl ?_
    refine wk_get C (v := .int (gEntry_settledReply S l2A)) huX11_settleEntry_3 hl2A.1 (fun cy => wAt_3 cy _ hl2A.2) rfl 15 (by decide) (List.mem_of_getElem? (i := 3) rfl) rfl rfl dX11_settleEntry_12 ?_
    refine wk_icmp_eq C (tgt := 31) dX11_settleEntry_15 (by decide) (fun c43 => ?_) (fun c43 => ?_)
    · rw [if_pos c43] at h
      exact wk_forget (lv' := [some (.ref l0A), some (.int l1I), some (.ref l2A)]) (wkLs.le ⟨rfl, rfl, rfl, trivial⟩) (ih _ _ (Nat.zero_le _) (Nat.zero_le _) _ _ _ _ hW hE hl0A hl2A h)
    · rw [if_neg c43] at h
      refine wk_aload_n C dX11_settleEntry_18 rfl rfl ?_
      refine wk_iload_n C dX11_settleEntry_19 rfl rfl ?_
      refine wk_aload_n C dX11_settleEntry_20 rfl rfl ?_
      refine wk_get C (v := .int (gEntry_reply S l2A)) huX11_settleEntry_3 hl2A.1 (fun cy => wAt_3 cy _ hl2A.2) rfl 11 (by decide) (List.mem_of_getElem? (i := 2) rfl) rfl rfl dX11_settleEntry_21 ?_
      refine wk_iconst C (v := 0) dX11_settleEntry_24 (by decide) ?_
      obtain ⟨k47, n48, hk47, hn48, h⟩ := h
      refine wk_callV C hR (As := [.int l1I, .int (gEntry_reply S l2A), .int (0 : Int32)]) (cnt := 3) (tX11_addError (l := l) hW hl0A h) rfl (wkGoodV (List.mem_of_getElem? (i := 16) rfl) (List.mem_of_getElem? (i := 17) rfl) (List.mem_of_getElem? (i := 18) rfl) (List.mem_of_getElem? (i := 19) rfl) hbX11_settleEntry_X11_addError gdX11_addError) (Nat.le_trans (by decide : 2 + 1 ≤ 3) hd) (by decide) hl0A.1 (fun cy => wAt_11 cy _ hl0A.2) rfl ⟨by decide, by decide, by decide +kernel⟩ rfl rfl (Nat.le_of_ble_eq_true rfl) hk47 hn48 dX11_settleEntry_25 (fun v' S45 hp => ?_)
      obtain ⟨v44, rfl, h, hWS45, hXS45⟩ := hp
      refine wk_goto C (tgt := 70) dX11_settleEntry_28 (by decide) ?_
      refine wk_aload_n C dX11_settleEntry_70 rfl rfl ?_
      refine wk_iconst C (v := 1) dX11_settleEntry_71 (by decide) ?_
      obtain ⟨S49, eS49, h⟩ := wkLt_some h
      refine wk_put C (S' := S49) huX11_settleEntry_3 (hXS45 _ _ hl2A).1 (fun cy => wAt_3 cy _ (hXS45 _ _ hl2A).2) rfl 14 (by decide) (List.mem_of_getElem? (i := 1) rfl) rfl tyX3_ok nmX3 rfl (ty := .boolean) rfl rfl rfl (by show 14 < 17; decide) (fun cy b => by rw [eS49]; exact wSt_3_14 cy _ (hXS45 _ _ hl2A).2 _ b) (by rw [eS49]) dX11_settleEntry_72 ?_
      have hWS49 : wkWF S49 := by rw [eS49]; exact hWS45
      have hXS49 : wkExt S45 S49 := by rw [eS49]; exact wkExt.rf
      refine wk_aload_n C dX11_settleEntry_75 rfl rfl ?_
      refine wk_aload_n C dX11_settleEntry_76 rfl rfl ?_
      refine wk_get C (v := .int (gEntry_reply S49 l2A)) huX11_settleEntry_3 (hXS49 _ _ (hXS45 _ _ hl2A)).1 (fun cy => wAt_3 cy _ (hXS49 _ _ (hXS45 _ _ hl2A)).2) rfl 11 (by decide) (List.mem_of_getElem? (i := 2) rfl) rfl rfl dX11_settleEntry_77 ?_
      obtain ⟨b50, h⟩ := h
      obtain ⟨S51, eS51, h⟩ := wkLt_some h
      refine wk_put C (S' := S51) huX11_settleEntry_3 (hXS49 _ _ (hXS45 _ _ hl2A)).1 (fun cy => wAt_3 cy _ (hXS49 _ _ (hXS45 _ _ hl2A)).2) rfl 15 (by decide) (List.mem_of_getElem? (i := 3) rfl) rfl tyX3_ok nmX3 rfl (ty := .char) rfl (wkNarC b50) (wkFitC b50) (by show 15 < 17; decide) (fun cy b => by rw [eS51]; exact wSt_3_15 cy _ (hXS49 _ _ (hXS45 _ _ hl2A)).2 _ b) (by rw [eS51]) dX11_settleEntry_80 ?_
      have hWS51 : wkWF S51 := by rw [eS51]; exact hWS49
      have hXS51 : wkExt S49 S51 := by rw [eS51]; exact wkExt.rf
      refine wk_aload_n C dX11_settleEntry_83 rfl rfl ?_
      refine wk_get C huX11_settleEntry_3 (hXS51 _ _ (hXS49 _ _ (hXS45 _ _ hl2A))).1 (fun cy => wAt_3 cy _ (hXS51 _ _ (hXS49 _ _ (hXS45 _ _ hl2A))).2) rfl 16 (by decide) (List.mem_of_getElem? (i := 4) rfl) rfl (congrArg some (congrArg va_rf (wf_Entry_settledRow hWS51 (hXS51 _ _ (hXS49 _ _ (hXS45 _ _ hl2A)))).1)) dX11_settleEntry_84 ?_
      refine wk_aload_n C dX11_settleEntry_87 rfl rfl ?_
      refine wk_get C huX11_settleEntry_3 (hXS51 _ _ (hXS49 _ _ (hXS45 _ _ hl2A))).1 (fun cy => wAt_3 cy _ (hXS51 _ _ (hXS49 _ _ (hXS45 _ _ hl2A))).2) rfl 13 (by decide) (List.mem_of_getElem? (i := 5) rfl) rfl (congrArg some (congrArg va_rf (wf_Entry_row hWS51 (hXS51 _ _ (hXS49 _ _ (hXS45 _ _ hl2A)))).1)) dX11_settleEntry_88 ?_
      obtain ⟨k55, n56, hk55, hn56, h⟩ := h
      refine wk_callV C hR (As := [.ref (wkAd (gEntry_row S51 l2A))]) (cnt := 1) (tX9_copy (l := l) hWS51 (wf_Entry_settledRow hWS51 (hXS51 _ _ (hXS49 _ _ (hXS45 _ _ hl2A)))).2 (wf_Entry_row hWS51 (hXS51 _ _ (hXS49 _ _ (hXS45 _ _ hl2A)))).2 h) rfl (wkGoodV (List.mem_of_getElem? (i := 6) rfl) (List.mem_of_getElem? (i := 7) rfl) (List.mem_of_getElem? (i := 8) rfl) (List.mem_of_getElem? (i := 9) rfl) hbX11_settleEntry_X9_copy gdX9_copy) (Nat.le_trans (by decide : 1 + 1 ≤ 3) hd) (by decide) (wf_Entry_settledRow hWS51 (hXS51 _ _ (hXS49 _ _ (hXS45 _ _ hl2A)))).2.1 (fun cy => wAt_9 cy _ (wf_Entry_settledRow hWS51 (hXS51 _ _ (hXS49 _ _ (hXS45 _ _ hl2A)))).2.2) rfl ⟨by decide, by decide, by decide +kernel⟩ rfl rfl (Nat.le_of_ble_eq_true rfl) hk55 hn56 dX11_settleEntry_91 (fun v' S53 hp => ?_)
      obtain ⟨v52, rfl, h, hWS53, hXS53⟩ := hp
      exact E _ _ _ _ _ hk55 hn56 dX11_settleEntry_94 ⟨(), rfl, h, hWS53, (wkExt.tr (wkExt.tr (wkExt.tr (wkExt.tr hE hXS45) hXS49) hXS51) hXS53)⟩
