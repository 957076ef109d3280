def wvJ0_charAt_5068e : List Cond := .code yJ0_charAt_5068e cJ0_charAt_5068e 2 (some .char) :: (([.methodLink RJ0 492 yJ0_isLatin1_aae02, .instanceMethod yJ0_isLatin1_aae02, .selects RJ0 yJ0_isLatin1_aae02 yJ0_isLatin1_aae02, .initialized RJ0, .fieldLink RJ0 9 "java/lang/String" "value" "[B", .methodLink RJ0 495 yJ1_charAt_3b067, .static yJ1_charAt_3b067, .initialized RJ1] : List Cond) ++ (([]) ++ (wvJ0_isLatin1_aae02 ++ (wvJ1_charAt_3b067))))
theorem hbJ0_charAt_5068e_J0_isLatin1_aae02 : ∀ w ∈ wvJ0_isLatin1_aae02, w ∈ wvJ0_charAt_5068e := fun w h => List.mem_cons_of_mem _ (List.mem_append_right _ (List.mem_append_right _ (List.mem_append_left _ h)))
theorem hbJ0_charAt_5068e_J1_charAt_3b067 : ∀ w ∈ wvJ1_charAt_3b067, w ∈ wvJ0_charAt_5068e := fun w h => List.mem_cons_of_mem _ (List.mem_append_right _ (List.mem_append_right _ (List.mem_append_right _ h)))
theorem gdJ0_charAt_5068e : ∀ w ∈ wvJ0_charAt_5068e, wkGd w := wkGdC rfl (wkGdA (wkGdL (by decide +kernel)) (wkGdA (fun _ h => absurd h List.not_mem_nil) (wkGdA gdJ0_isLatin1_aae02 gdJ1_charAt_3b067)))
def rJ0_charAt_5068e (F : Nat) (l1I : Int32) (S : wPS) (Φ : (Int32 → wPS → Prop)) : Prop :=
  rJ1_charAt_3b067 F l1I S fun v3 S4 => ((v3 : Int32).toUInt32 % 65536).toInt32 = v3 ∧ Φ v3 S4
set_option maxHeartbeats 4000000 in
set_option maxRecDepth 100000 in
theorem tJ0_charAt_5068e {l : Launch} {g : wkG} {F : Nat}  {S : wPS} {l0A : Nat} {l1I : Int32} {Φ : (Int32 → wPS → Prop)} (hstr : wkStr g) (hW : wkWF S) (hl0A : l0A = g.1 5) (h : rJ0_charAt_5068e F l1I S Φ) : wkMet l g yJ0_charAt_5068e wvJ0_charAt_5068e 3 0 0 [.ref l0A, .int l1I] S (fun v' S'' => ∃ v : Int32, v' = some (.int v) ∧ Φ v S'' ∧ wkWF S'' ∧ wkExt S S'') := by
  refine wkMet_of (ret := (some .char)) (by decide) rfl (Nat.le_of_ble_eq_true rfl) (fun X hg C hR E => ?_)
  subst hg
  have hE : wkExt S S := wkExt.rf
  have hd : 3 ≤ 3 := Nat.le_refl _
  show wkGo l X 2 0 0 0 S [some (.ref l0A), some (.int l1I)] []
  unfold rJ0_charAt_5068e at h
  refine wk_aload_n C dJ0_charAt_5068e_0 rfl rfl ?_
  refine wk_callVS C hstr hR (As := []) (cnt := 0) (tJ0_isLatin1_aae02 (l := l) (F := F) (Φ := fun v S'' => v = (1 : Int32) ∧ S'' = S) hstr hW hl0A ⟨by decide, rfl⟩) rfl (wkGoodV (List.mem_of_getElem? (i := 1) rfl) (List.mem_of_getElem? (i := 2) rfl) (List.mem_of_getElem? (i := 3) rfl) (List.mem_of_getElem? (i := 4) rfl) hbJ0_charAt_5068e_J0_isLatin1_aae02 gdJ0_isLatin1_aae02) (Nat.le_trans (by decide : 0 + 1 ≤ 3) hd) (by decide) hl0A rfl ⟨by decide, by decide, by decide +kernel⟩ rfl rfl (Nat.le_of_ble_eq_true rfl) (Nat.le_refl 0) (Nat.le_refl 0) dJ0_charAt_5068e_1 (fun v' S2 hp => ?_)
  obtain ⟨v1, rfl, ⟨ev1, eS2⟩, -, -⟩ := hp
  rw [ev1, eS2]
  refine wk_if_eq C (tgt := 16) dJ0_charAt_5068e_4 (by decide) (fun c => False.elim (by revert c; decide)) (fun _ => ?_)
  refine wk_aload_n C dJ0_charAt_5068e_7 rfl rfl ?_
  refine wk_sval C hstr hl0A (List.mem_of_getElem? (i := 5) rfl) dJ0_charAt_5068e_8 ?_
  refine wk_iload_n C dJ0_charAt_5068e_11 rfl rfl ?_
  refine wk_callW C hR (As := [.ref ((wkXg X).1 6), .int l1I]) (cnt := 2) (tJ1_charAt_3b067 (l := l) hstr hW rfl h) rfl (wkGoodW (List.mem_of_getElem? (i := 6) rfl) (List.mem_of_getElem? (i := 7) rfl) (List.mem_of_getElem? (i := 8) rfl) hbJ0_charAt_5068e_J1_charAt_3b067 gdJ1_charAt_3b067) (Nat.le_trans (by decide : 2 + 1 ≤ 3) hd) (by decide) ⟨by decide, by decide, by decide +kernel⟩ rfl rfl (Nat.le_of_ble_eq_true rfl) (Nat.le_refl 0) (Nat.le_refl 0) dJ0_charAt_5068e_12 (fun v' S4 hp => ?_)
  obtain ⟨v3, rfl, h, hWS4, hXS4⟩ := hp
  obtain ⟨b8, h⟩ := h
  exact E _ _ _ _ _ _ (Nat.le_refl 0) (Nat.le_refl 0) dJ0_charAt_5068e_15 (wkNarC b8) ⟨v3, rfl, h, hWS4, (wkExt.tr hE hXS4)⟩
def wvJ0_indexOf_7cf53 : List Cond := .code yJ0_indexOf_7cf53 cJ0_indexOf_7cf53 3 (some .int) :: (([.methodLink RJ0 492 yJ0_isLatin1_aae02, .instanceMethod yJ0_isLatin1_aae02, .selects RJ0 yJ0_isLatin1_aae02 yJ0_isLatin1_aae02, .initialized RJ0, .fieldLink RJ0 9 "java/lang/String" "value" "[B", .methodLink RJ0 505 yJ0_length_8abf5, .instanceMethod yJ0_length_8abf5, .selects RJ0 yJ0_length_8abf5 yJ0_length_8abf5, .methodLink RJ0 637 yJ1_indexOf_4cfef, .static yJ1_indexOf_4cfef, .initialized RJ1] : List Cond) ++ (([]) ++ (wvJ0_isLatin1_aae02 ++ (wvJ0_length_8abf5 ++ (wvJ1_indexOf_4cfef)))))
theorem hbJ0_indexOf_7cf53_J0_isLatin1_aae02 : ∀ w ∈ wvJ0_isLatin1_aae02, w ∈ wvJ0_indexOf_7cf53 := fun w h => List.mem_cons_of_mem _ (List.mem_append_right _ (List.mem_append_right _ (List.mem_append_left _ h)))
theorem hbJ0_indexOf_7cf53_J0_length_8abf5 : ∀ w ∈ wvJ0_length_8abf5, w ∈ wvJ0_indexOf_7cf53 := fun w h => List.mem_cons_of_mem _ (List.mem_append_right _ (List.mem_append_right _ (List.mem_append_right _ (List.mem_append_left _ h))))
theorem hbJ0_indexOf_7cf53_J1_indexOf_4cfef : ∀ w ∈ wvJ1_indexOf_4cfef, w ∈ wvJ0_indexOf_7cf53 := fun w h => List.mem_cons_of_mem _ (List.mem_append_right _ (List.mem_append_right _ (List.mem_append_right _ (List.mem_append_right _ h))))
theorem gdJ0_indexOf_7cf53 : ∀ w ∈ wvJ0_indexOf_7cf53, wkGd w := wkGdC rfl (wkGdA (wkGdL (by decide +kernel)) (wkGdA (fun _ h => absurd h List.not_mem_nil) (wkGdA gdJ0_isLatin1_aae02 (wkGdA gdJ0_length_8abf5 gdJ1_indexOf_4cfef))))
def rJ0_indexOf_7cf53 (F : Nat) (l1I : Int32) (l2I : Int32) (S : wPS) (Φ : (Int32 → wPS → Prop)) : Prop :=
  rJ1_indexOf_4cfef F l1I l2I (12 : Int32) S fun v5 S6 => Φ v5 S6
set_option maxHeartbeats 4000000 in
set_option maxRecDepth 100000 in
theorem tJ0_indexOf_7cf53 {l : Launch} {g : wkG} {F : Nat}  {S : wPS} {l0A : Nat} {l1I : Int32} {l2I : Int32} {Φ : (Int32 → wPS → Prop)} (hstr : wkStr g) (hW : wkWF S) (hl0A : l0A = g.1 5) (h : rJ0_indexOf_7cf53 F l1I l2I S Φ) : wkMet l g yJ0_indexOf_7cf53 wvJ0_indexOf_7cf53 2 0 0 [.ref l0A, .int l1I, .int l2I] S (fun v' S'' => ∃ v : Int32, v' = some (.int v) ∧ Φ v S'' ∧ wkWF S'' ∧ wkExt S S'') := by
  refine wkMet_of (ret := (some .int)) (by decide) rfl (Nat.le_of_ble_eq_true rfl) (fun X hg C hR E => ?_)
  subst hg
  have hE : wkExt S S := wkExt.rf
  have hd : 2 ≤ 2 := Nat.le_refl _
  show wkGo l X 3 0 0 0 S [some (.ref l0A), some (.int l1I), some (.int l2I)] []
  unfold rJ0_indexOf_7cf53 at h
  refine wk_aload_n C dJ0_indexOf_7cf53_0 rfl rfl ?_
  refine wk_callVS C hstr hR (As := []) (cnt := 0) (tJ0_isLatin1_aae02 (l := l) (F := F) (Φ := fun v S'' => v = (1 : Int32) ∧ S'' = S) hstr hW hl0A ⟨by decide, rfl⟩) rfl (wkGoodV (List.mem_of_getElem? (i := 1) rfl) (List.mem_of_getElem? (i := 2) rfl) (List.mem_of_getElem? (i := 3) rfl) (List.mem_of_getElem? (i := 4) rfl) hbJ0_indexOf_7cf53_J0_isLatin1_aae02 gdJ0_isLatin1_aae02) (Nat.le_trans (by decide : 0 + 1 ≤ 2) hd) (by decide) hl0A rfl ⟨by decide, by decide, by decide +kernel⟩ rfl rfl (Nat.le_of_ble_eq_true rfl) (Nat.le_refl 0) (Nat.le_refl 0) dJ0_indexOf_7cf53_1 (fun v' S2 hp => ?_)
  obtain ⟨v1, rfl, ⟨ev1, eS2⟩, -, -⟩ := hp
  rw [ev1, eS2]
  refine wk_if_eq C (tgt := 23) dJ0_indexOf_7cf53_4 (by decide) (fun c => False.elim (by revert c; decide)) (fun _ => ?_)
  refine wk_aload_n C dJ0_indexOf_7cf53_7 rfl rfl ?_
  refine wk_sval C hstr hl0A (List.mem_of_getElem? (i := 5) rfl) dJ0_indexOf_7cf53_8 ?_
  refine wk_iload_n C dJ0_indexOf_7cf53_11 rfl rfl ?_
  refine wk_iload_n C dJ0_indexOf_7cf53_12 rfl rfl ?_
  refine wk_aload_n C dJ0_indexOf_7cf53_13 rfl rfl ?_
  refine wk_callVS C hstr hR (As := []) (cnt := 0) (tJ0_length_8abf5 (l := l) (F := F) (Φ := fun v S'' => v = (12 : Int32) ∧ S'' = S) hstr hW hl0A ⟨by decide, rfl⟩) rfl (wkGoodV (List.mem_of_getElem? (i := 6) rfl) (List.mem_of_getElem? (i := 7) rfl) (List.mem_of_getElem? (i := 8) rfl) (List.mem_of_getElem? (i := 4) rfl) hbJ0_indexOf_7cf53_J0_length_8abf5 gdJ0_length_8abf5) (Nat.le_trans (by decide : 1 + 1 ≤ 2) hd) (by decide) hl0A rfl ⟨by decide, by decide, by decide +kernel⟩ rfl rfl (Nat.le_of_ble_eq_true rfl) (Nat.le_refl 0) (Nat.le_refl 0) dJ0_indexOf_7cf53_14 (fun v' S4 hp => ?_)
  obtain ⟨v3, rfl, ⟨ev3, eS4⟩, -, -⟩ := hp
  rw [ev3, eS4]
  refine wk_callW C hR (As := [.ref ((wkXg X).1 6), .int l1I, .int l2I, .int (12 : Int32)]) (cnt := 4) (tJ1_indexOf_4cfef (l := l) hstr hW rfl h) rfl (wkGoodW (List.mem_of_getElem? (i := 9) rfl) (List.mem_of_getElem? (i := 10) rfl) (List.mem_of_getElem? (i := 11) rfl) hbJ0_indexOf_7cf53_J1_indexOf_4cfef gdJ1_indexOf_4cfef) (Nat.le_trans (by decide : 1 + 1 ≤ 2) hd) (by decide) ⟨by decide, by decide, by decide +kernel⟩ rfl rfl (Nat.le_of_ble_eq_true rfl) (Nat.le_refl 0) (Nat.le_refl 0) dJ0_indexOf_7cf53_17 (fun v' S6 hp => ?_)
  obtain ⟨v5, rfl, h, hWS6, hXS6⟩ := hp
  refine wk_goto C (tgt := 36) dJ0_indexOf_7cf53_20 (by decide) ?_
  exact E _ _ _ _ _ _ (Nat.le_refl 0) (Nat.le_refl 0) dJ0_indexOf_7cf53_36 ⟨v5, rfl, h, hWS6, (wkExt.tr hE hXS6)⟩
def wvX1_isFulfilled : List Cond := .code yX1_isFulfilled cX1_isFulfilled 4 (some .boolean) :: (([.fieldLink RX1 44 "Witnessworks$Clauses" "depth" "I", .fieldLink RX1 47 "Witnessworks$Clauses" "ones" "I", .methodLink RX1 54 yJ6_bitCount_0f7a4, .static yJ6_bitCount_0f7a4, .initialized RJ6, .fieldLink RX1 60 "Witnessworks$Entry" "boundNow" "I", .methodLink RX1 63 yX1_brokenItem, .instanceMethod yX1_brokenItem, .selects RX1 yX1_brokenItem yX1_brokenItem, .initialized RX1, .static yX11_has, .initialized RX11, .fieldLink RX1 18 "Witnessworks$Entry" "size" "I"] : List Cond) ++ ((wsX10 ++ (wsX30)) ++ (wvJ6_bitCount_0f7a4 ++ (wvX1_brokenItem ++ (wvX11_has)))))
theorem huX1_isFulfilled_1 : ∀ w ∈ u_ws RX1 TX1 7, w ∈ wvX1_isFulfilled := fun w h => List.mem_cons_of_mem _ (List.mem_append_right _ (List.mem_append_left _ (List.mem_append_left _ h)))
theorem huX1_isFulfilled_3 : ∀ w ∈ u_ws RX3 TX3 17, w ∈ wvX1_isFulfilled := fun w h => List.mem_cons_of_mem _ (List.mem_append_right _ (List.mem_append_left _ (List.mem_append_right _ h)))
theorem hbX1_isFulfilled_J6_bitCount_0f7a4 : ∀ w ∈ wvJ6_bitCount_0f7a4, w ∈ wvX1_isFulfilled := fun w h => List.mem_cons_of_mem _ (List.mem_append_right _ (List.mem_append_right _ (List.mem_append_left _ h)))
theorem hbX1_isFulfilled_X1_brokenItem : ∀ w ∈ wvX1_brokenItem, w ∈ wvX1_isFulfilled := fun w h => List.mem_cons_of_mem _ (List.mem_append_right _ (List.mem_append_right _ (List.mem_append_right _ (List.mem_append_left _ h))))
theorem hbX1_isFulfilled_X11_has : ∀ w ∈ wvX11_has, w ∈ wvX1_isFulfilled := fun w h => List.mem_cons_of_mem _ (List.mem_append_right _ (List.mem_append_right _ (List.mem_append_right _ (List.mem_append_right _ h))))
theorem gdX1_isFulfilled : ∀ w ∈ wvX1_isFulfilled, wkGd w := wkGdC rfl (wkGdA (wkGdL (by decide +kernel)) (wkGdA (wkGdA gdX1 gdX3) (wkGdA gdJ6_bitCount_0f7a4 (wkGdA gdX1_brokenItem gdX11_has))))
def rX1_isFulfilled_b0 (F : Nat) (rec : Nat → Nat → Nat → Int32 → Int32 → wPS → (Int32 → wPS → Prop) → Prop) (l0A : Nat) (l1A : Nat) (l2I : Int32) (l3I : Int32) (S : wPS) (Φ : (Int32 → wPS → Prop)) : Prop :=
  if (gClauses_depth S l0A) ≤ l3I then (rJ6_bitCount_0f7a4 F (gClauses_ones S l0A) S fun v2 S3 => if (gEntry_boundNow S3 l1A) < v2 then (Φ (0 : Int32) S3) else (rX1_brokenItem F l0A l1A S3 fun v8 S9 => if 0 ≤ v8 then (Φ (0 : Int32) S9) else (Φ (1 : Int32) S9))) else (rX11_has F l2I (((gClauses_depth S l0A) - (1 : Int32)) - l3I) S fun v14 S15 => if v14 = 0 then (wkLt (l3I + (1 : Int32)) fun x20 => rec 0 l0A l1A l2I x20 S15 Φ) else (wkLt (wu_Clauses_ones S15 l0A ((gClauses_ones S15 l0A) ||| ((1 : Int32) <<< (l3I &&& 31)))) fun S21 => wkLt (l3I + (1 : Int32)) fun x22 => rec 0 l0A l1A l2I x22 S21 Φ))
def rX1_isFulfilled_go (F : Nat) : Nat → Nat → Nat → Nat → Int32 → Int32 → wPS → (Int32 → wPS → Prop) → Prop
  | 0, _, _, _, _, _, _, _ => False
  | k' + 1, lab, l0A, l1A, l2I, l3I, S, Φ => if lab = 0 then rX1_isFulfilled_b0 F (rX1_isFulfilled_go F k') l0A l1A l2I l3I S Φ else False
def rX1_isFulfilled_s (F : Nat) (rec : Nat → Nat → Nat → Int32 → Int32 → wPS → (Int32 → wPS → Prop) → Prop) (l0A : Nat) (l1A : Nat) (l2I : Int32) (S : wPS) (Φ : (Int32 → wPS → Prop)) : Prop :=
  wkLt (wu_Clauses_depth S l0A (gEntry_size S l1A)) fun S23 => wkLt (wu_Clauses_ones S23 l0A (0 : Int32)) fun S24 => rec 0 l0A l1A l2I (0 : Int32) S24 Φ
def rX1_isFulfilled (F : Nat) (l0A : Nat) (l1A : Nat) (l2I : Int32) (S : wPS) (Φ : (Int32 → wPS → Prop)) : Prop := rX1_isFulfilled_s F (rX1_isFulfilled_go F F) l0A l1A l2I S Φ
set_option maxHeartbeats 4000000 in
set_option maxRecDepth 100000 in
theorem tX1_isFulfilled_go {l : Launch} {X : wkX} {d F : Nat} {S0 : wPS} {Φ : (Int32 → wPS → Prop)} (C : wkC X cX1_isFulfilled RX1 4 wvX1_isFulfilled) (hR : wkRm X d 0 0) (hd : 3 ≤ d) (E : wkEnd l X cX1_isFulfilled 4 (some .boolean) 0 0 (fun v' S'' => ∃ v : Int32, v' = some (.int v) ∧ Φ v S'' ∧ wkWF S'' ∧ wkExt S0 S'')) : ∀ k' : Nat, (∀ (l0A : Nat) (l1A : Nat) (l2I : Int32) (l3I : Int32) (S : wPS), wkWF S → wkExt S0 S → wkIs S l0A 1 → wkIs S l1A 3 → rX1_isFulfilled_go F k' 0 l0A l1A l2I l3I S Φ → wkGo l X 4 0 0 15 S [some (.ref l0A), some (.ref l1A), some (.int l2I), some (.int l3I)] []) := by
  intro k'
  induction k' with
  | zero => exact fun l0A l1A l2I l3I S hW hE hl0A hl1A h => h.elim
  | succ k' ih =>
    · intro l0A l1A l2I l3I S hW hE hl0A hl1A h
      have h : rX1_isFulfilled_b0 F (rX1_isFulfilled_go F k') l0A l1A l2I l3I S Φ := by
        rw [rX1_isFulfilled_go, if_pos (rfl : (0 : Nat) = 0)] at h
        exact h
      unfold rX1_isFulfilled_b0 at h
      refine wk_iload_n C dX1_isFulfilled_15 rfl rfl ?_
      refine wk_aload_n C dX1_isFulfilled_16 rfl rfl ?_
      refine wk_get C (v := .int (gClauses_depth S l0A)) huX1_isFulfilled_1 hl0A.1 (fun cy => wAt_1 cy _ hl0A.2) rfl 4 (by decide) (List.mem_of_getElem? (i := 1) rfl) rfl rfl dX1_isFulfilled_17 ?_
      refine wk_icmp_ge C (tgt := 56) dX1_isFulfilled_20 (by decide) (fun c1 => ?_) (fun c1 => ?_)
      · rw [if_pos c1] at h
        refine wk_aload_n C dX1_isFulfilled_56 rfl rfl ?_
        refine wk_get C (v := .int (gClauses_ones S l0A)) huX1_isFulfilled_1 hl0A.1 (fun cy => wAt_1 cy _ hl0A.2) rfl 5 (by decide) (List.mem_of_getElem? (i := 2) rfl) rfl rfl dX1_isFulfilled_57 ?_
        refine wk_callW C hR (As := [.int (gClauses_ones S l0A)]) (cnt := 1) (tJ6_bitCount_0f7a4 (l := l) hW  h) rfl (wkGoodW (List.mem_of_getElem? (i := 3) rfl) (List.mem_of_getElem? (i := 4) rfl) (List.mem_of_getElem? (i := 5) rfl) hbX1_isFulfilled_J6_bitCount_0f7a4 gdJ6_bitCount_0f7a4) (Nat.le_trans (by decide : 0 + 1 ≤ 3) hd) (by decide) ⟨by decide, by decide, by decide +kernel⟩ rfl rfl (Nat.le_of_ble_eq_true rfl) (Nat.le_refl 0) (Nat.le_refl 0) dX1_isFulfilled_60 (fun v' S3 hp => ?_)
        obtain ⟨v2, rfl, h, hWS3, hXS3⟩ := hp
        refine wk_aload_n C dX1_isFulfilled_63 rfl rfl ?_
        refine wk_get C (v := .int (gEntry_boundNow S3 l1A)) huX1_isFulfilled_3 (hXS3 _ _ hl1A).1 (fun cy => wAt_3 cy _ (hXS3 _ _ hl1A).2) rfl 8 (by decide) (List.mem_of_getElem? (i := 6) rfl) rfl rfl dX1_isFulfilled_64 ?_
        refine wk_icmp_gt C (tgt := 82) dX1_isFulfilled_67 (by decide) (fun c7 => ?_) (fun c7 => ?_)
        · rw [if_pos c7] at h
          refine wk_iconst C (v := 0) dX1_isFulfilled_82 (by decide) ?_
          exact E _ _ _ _ _ _ (Nat.le_refl 0) (Nat.le_refl 0) dX1_isFulfilled_83 rfl ⟨(0 : Int32), rfl, h, hWS3, (wkExt.tr hE hXS3)⟩
        · rw [if_neg c7] at h
          refine wk_aload_n C dX1_isFulfilled_70 rfl rfl ?_
          refine wk_aload_n C dX1_isFulfilled_71 rfl rfl ?_
          refine wk_callV C hR (As := [.ref l1A]) (cnt := 1) (tX1_brokenItem (l := l) hWS3 (hXS3 _ _ hl0A) (hXS3 _ _ hl1A) h) rfl (wkGoodV (List.mem_of_getElem? (i := 7) rfl) (List.mem_of_getElem? (i := 8) rfl) (List.mem_of_getElem? (i := 9) rfl) (List.mem_of_getElem? (i := 10) rfl) hbX1_isFulfilled_X1_brokenItem gdX1_brokenItem) (Nat.le_trans (by decide : 2 + 1 ≤ 3) hd) (by decide) (hXS3 _ _ hl0A).1 (fun cy => wAt_1 cy _ (hXS3 _ _ hl0A).2) rfl ⟨by decide, by decide, by decide +kernel⟩ rfl rfl (Nat.le_of_ble_eq_true rfl) (Nat.le_refl 0) (Nat.le_refl 0) dX1_isFulfilled_72 (fun v' S9 hp => ?_)
          obtain ⟨v8, rfl, h, hWS9, hXS9⟩ := hp
          refine wk_if_ge C (tgt := 82) dX1_isFulfilled_75 (by decide) (fun c13 => ?_) (fun c13 => ?_)
          · rw [if_pos c13] at h
            refine wk_iconst C (v := 0) dX1_isFulfilled_82 (by decide) ?_
            exact E _ _ _ _ _ _ (Nat.le_refl 0) (Nat.le_refl 0) dX1_isFulfilled_83 rfl ⟨(0 : Int32), rfl, h, hWS9, (wkExt.tr (wkExt.tr hE hXS3) hXS9)⟩
          · rw [if_neg c13] at h
            refine wk_iconst C (v := 1) dX1_isFulfilled_78 (by decide) ?_
            refine wk_goto C (tgt := 83) dX1_isFulfilled_79 (by decide) ?_
            exact E _ _ _ _ _ _ (Nat.le_refl 0) (Nat.le_refl 0) dX1_isFulfilled_83 rfl ⟨(1 : Int32), rfl, h, hWS9, (wkExt.tr (wkExt.tr hE hXS3) hXS9)⟩
      · rw [if_neg c1] at h
        refine wk_iload_n C dX1_isFulfilled_23 rfl rfl ?_
        refine wk_aload_n C dX1_isFulfilled_24 rfl rfl ?_
        refine wk_get C (v := .int (gClauses_depth S l0A)) huX1_isFulfilled_1 hl0A.1 (fun cy => wAt_1 cy _ hl0A.2) rfl 4 (by decide) (List.mem_of_getElem? (i := 1) rfl) rfl rfl dX1_isFulfilled_25 ?_
        refine wk_iconst C (v := 1) dX1_isFulfilled_28 (by decide) ?_
        refine wk_isub C dX1_isFulfilled_29 rfl ?_
        refine wk_iload_n C dX1_isFulfilled_30 rfl rfl ?_
        refine wk_isub C dX1_isFulfilled_31 rfl ?_
        refine wk_callN C hR (y := yX11_has) (host := "Witnessworks") (As := [.int l2I, .int (((gClauses_depth S l0A) - (1 : Int32)) - l3I)]) (cnt := 2) (tX11_has (l := l) hW  h) rfl (fun w h => ⟨hbX1_isFulfilled_X11_has w h, gdX11_has w h⟩) (by decide +kernel) (List.mem_of_getElem? (i := 11) rfl) (List.mem_of_getElem? (i := 12) rfl) (Nat.le_trans (by decide : 0 + 1 ≤ 3) hd) (by decide) ⟨by decide, by decide, by decide +kernel⟩ rfl rfl (Nat.le_of_ble_eq_true rfl) (Nat.le_refl 0) (Nat.le_refl 0) dX1_isFulfilled_32 (fun v' S15 hp => ?_)
        obtain ⟨v14, rfl, h, hWS15, hXS15⟩ := hp
        refine wk_if_eq C (tgt := 50) dX1_isFulfilled_35 (by decide) (fun c19 => ?_) (fun c19 => ?_)
        · rw [if_pos c19] at h
          obtain ⟨x20, ex20, h⟩ := wkLt_some h
          refine wk_iinc C (lv' := [some (.ref l0A), some (.ref l1A), some (.int l2I), some (.int x20)]) dX1_isFulfilled_50 rfl (by rw [ex20]; rfl) (by decide) rfl ?_
          refine wk_goto C (tgt := 15) dX1_isFulfilled_53 (by decide) ?_
          exact wk_forget (lv' := [some (.ref l0A), some (.ref l1A), some (.int l2I), some (.int x20)]) (wkLs.le ⟨rfl, rfl, rfl, rfl, trivial⟩) (ih _ _ _ _ _ hWS15 (wkExt.tr hE hXS15) (hXS15 _ _ hl0A) (hXS15 _ _ hl1A) h)
        · rw [if_neg c19] at h
          refine wk_aload_n C dX1_isFulfilled_38 rfl rfl ?_
          refine wk_dup C dX1_isFulfilled_39 rfl ?_
          refine wk_get C (v := .int (gClauses_ones S15 l0A)) huX1_isFulfilled_1 (hXS15 _ _ hl0A).1 (fun cy => wAt_1 cy _ (hXS15 _ _ hl0A).2) rfl 5 (by decide) (List.mem_of_getElem? (i := 2) rfl) rfl rfl dX1_isFulfilled_40 ?_
          refine wk_iconst C (v := 1) dX1_isFulfilled_43 (by decide) ?_
          refine wk_iload_n C dX1_isFulfilled_44 rfl rfl ?_
          refine wk_ishl C dX1_isFulfilled_45 rfl ?_
          refine wk_ior C dX1_isFulfilled_46 rfl ?_
          obtain ⟨S21, eS21, h⟩ := wkLt_some h
          refine wk_put C (S' := S21) huX1_isFulfilled_1 (hXS15 _ _ hl0A).1 (fun cy => wAt_1 cy _ (hXS15 _ _ hl0A).2) rfl 5 (by decide) (List.mem_of_getElem? (i := 2) rfl) rfl tyX1_ok nmX1 rfl (ty := .int) rfl rfl rfl (by show 5 < 7; decide) (fun cy b => by rw [eS21]; exact wSt_1_5 cy _ (hXS15 _ _ hl0A).2 _ b) (by rw [eS21]) dX1_isFulfilled_47 ?_
          have hWS21 : wkWF S21 := by rw [eS21]; exact hWS15
          have hXS21 : wkExt S15 S21 := by rw [eS21]; exact wkExt.rf
          obtain ⟨x22, ex22, h⟩ := wkLt_some h
          refine wk_iinc C (lv' := [some (.ref l0A), some (.ref l1A), some (.int l2I), some (.int x22)]) dX1_isFulfilled_50 rfl (by rw [ex22]; rfl) (by decide) rfl ?_
          refine wk_goto C (tgt := 15) dX1_isFulfilled_53 (by decide) ?_
          exact wk_forget (lv' := [some (.ref l0A), some (.ref l1A), some (.int l2I), some (.int x22)]) (wkLs.le ⟨rfl, rfl, rfl, rfl, trivial⟩) (ih _ _ _ _ _ hWS21 (wkExt.tr (wkExt.tr hE hXS15) hXS21) (hXS21 _ _ (hXS15 _ _ hl0A)) (hXS21 _ _ (hXS15 _ _ hl1A)) h)
set_option maxHeartbeats 4000000 in
set_option maxRecDepth 100000 in
theorem tX1_isFulfilled {l : Launch} {g : wkG} {F : Nat}  {S : wPS} {l0A : Nat} {l1A : Nat} {l2I : Int32} {Φ : (Int32 → wPS → Prop)} (hW : wkWF S) (hl0A : wkIs S l0A 1) (hl1A : wkIs S l1A 3) (h : rX1_isFulfilled F l0A l1A l2I S Φ) : wkMet l g yX1_isFulfilled wvX1_isFulfilled 3 0 0 [.ref l0A, .ref l1A, .int l2I] S (fun v' S'' => ∃ v : Int32, v' = some (.int v) ∧ Φ v S'' ∧ wkWF S'' ∧ wkExt S S'') := by
  refine wkMet_of (ret := (some .boolean)) (by decide) rfl (Nat.le_of_ble_eq_true rfl) (fun X hg C hR E => ?_)
  subst hg
  have hE : wkExt S S := wkExt.rf
  have hd : 3 ≤ 3 := Nat.le_refl _
  show wkGo l X 4 0 0 0 S [some (.ref l0A), some (.ref l1A), some (.int l2I), none] []
  have ih := tX1_isFulfilled_go (F := F) C hR hd E F
  have h : rX1_isFulfilled_s F (rX1_isFulfilled_go F F) l0A l1A l2I S Φ := h
  unfold rX1_isFulfilled_s at h
  refine wk_aload_n C dX1_isFulfilled_0 rfl rfl ?_
  refine wk_aload_n C dX1_isFulfilled_1 rfl rfl ?_
  refine wk_get C (v := .int (gEntry_size S l1A)) huX1_isFulfilled_3 hl1A.1 (fun cy => wAt_3 cy _ hl1A.2) rfl 1 (by decide) (List.mem_of_getElem? (i := 13) rfl) rfl rfl dX1_isFulfilled_2 ?_
  obtain ⟨S23, eS23, h⟩ := wkLt_some h
  refine wk_put C (S' := S23) huX1_isFulfilled_1 hl0A.1 (fun cy => wAt_1 cy _ hl0A.2) rfl 4 (by decide) (List.mem_of_getElem? (i := 1) rfl) rfl tyX1_ok nmX1 rfl (ty := .int) rfl rfl rfl (by show 4 < 7; decide) (fun cy b => by rw [eS23]; exact wSt_1_4 cy _ hl0A.2 _ b) (by rw [eS23]) dX1_isFulfilled_5 ?_
  have hWS23 : wkWF S23 := by rw [eS23]; exact hW
  have hXS23 : wkExt S S23 := by rw [eS23]; exact wkExt.rf
  refine wk_aload_n C dX1_isFulfilled_8 rfl rfl ?_
  refine wk_iconst C (v := 0) dX1_isFulfilled_9 (by decide) ?_
  obtain ⟨S24, eS24, h⟩ := wkLt_some h
  refine wk_put C (S' := S24) huX1_isFulfilled_1 (hXS23 _ _ hl0A).1 (fun cy => wAt_1 cy _ (hXS23 _ _ hl0A).2) rfl 5 (by decide) (List.mem_of_getElem? (i := 2) rfl) rfl tyX1_ok nmX1 rfl (ty := .int) rfl rfl rfl (by show 5 < 7; decide) (fun cy b => by rw [eS24]; exact wSt_1_5 cy _ (hXS23 _ _ hl0A).2 _ b) (by rw [eS24]) dX1_isFulfilled_10 ?_
  have hWS24 : wkWF S24 := by rw [eS24]; exact hWS23
  have hXS24 : wkExt S23 S24 := by rw [eS24]; exact wkExt.rf
  refine wk_iconst C (v := 0) dX1_isFulfilled_13 (by decide) ?_
  refine wk_istore_n C (lv' := [some (.ref l0A), some (.ref l1A), some (.int l2I), some (.int (0 : Int32))]) dX1_isFulfilled_14 rfl (by decide) rfl ?_
  exact wk_forget (lv' := [some (.ref l0A), some (.ref l1A), some (.int l2I), some (.int (0 : Int32))]) (wkLs.le ⟨rfl, rfl, rfl, rfl, trivial⟩) (ih _ _ _ _ _ hWS24 (wkExt.tr (wkExt.tr hE hXS23) hXS24) (hXS24 _ _ (hXS23 _ _ hl0A)) (hXS24 _ _ (hXS23 _ _ hl1A)) h)
def wvX2_fillsFrom : List Cond := .code yX2_fillsFrom cX2_fillsFrom 5 (some .boolean) :: (([.fieldLink RX2 46 "Witnessworks$Drawings" "places" "I", .fieldLink RX2 19 "Witnessworks$Drawings" "owner" "[I", .methodLink RX2 65 yX2_countWalks, .instanceMethod yX2_countWalks, .selects RX2 yX2_countWalks yX2_countWalks, .initialized RX2, .fieldLink RX2 28 "Witnessworks$Drawings" "walksDue" "[I", .fieldLink RX2 62 "Witnessworks$Drawings" "nodeCount" "I", .fieldLink RX2 9 "Witnessworks$Drawings" "near" "[I", .fieldLink RX2 13 "Witnessworks$Drawings" "used" "[I", .static yX11_has, .initialized RX11, .methodLink RX2 118 yX2_setPlace, .instanceMethod yX2_setPlace, .selects RX2 yX2_setPlace yX2_setPlace, .methodLink RX2 42 yX2_fillsFrom, .instanceMethod yX2_fillsFrom, .selects RX2 yX2_fillsFrom yX2_fillsFrom, .fieldLink RX2 16 "Witnessworks$Drawings" "firstPlace" "[I"] : List Cond) ++ ((wsX20) ++ (wvX2_countWalks ++ (wvX11_has ++ (wvX2_setPlace)))))
theorem huX2_fillsFrom_2 : ∀ w ∈ u_ws RX2 TX2 10, w ∈ wvX2_fillsFrom := fun w h => List.mem_cons_of_mem _ (List.mem_append_right _ (List.mem_append_left _ h))
theorem hbX2_fillsFrom_X2_countWalks : ∀ w ∈ wvX2_countWalks, w ∈ wvX2_fillsFrom := fun w h => List.mem_cons_of_mem _ (List.mem_append_right _ (List.mem_append_right _ (List.mem_append_left _ h)))
theorem hbX2_fillsFrom_X11_has : ∀ w ∈ wvX11_has, w ∈ wvX2_fillsFrom := fun w h => List.mem_cons_of_mem _ (List.mem_append_right _ (List.mem_append_right _ (List.mem_append_right _ (List.mem_append_left _ h))))
theorem hbX2_fillsFrom_X2_setPlace : ∀ w ∈ wvX2_setPlace, w ∈ wvX2_fillsFrom := fun w h => List.mem_cons_of_mem _ (List.mem_append_right _ (List.mem_append_right _ (List.mem_append_right _ (List.mem_append_right _ h))))
theorem gdX2_fillsFrom : ∀ w ∈ wvX2_fillsFrom, wkGd w := wkGdC rfl (wkGdA (wkGdL (by decide +kernel)) (wkGdA gdX2 (wkGdA gdX2_countWalks (wkGdA gdX11_has gdX2_setPlace))))
def rX2_fillsFrom_b0 (F : Nat) (rc : Nat → Int32 → wPS → (Int32 → wPS → Prop) → Prop) (rec : Nat → Nat → Int32 → Int32 → Int32 → Int32 → wPS → (Int32 → wPS → Prop) → Prop) (l0A : Nat) (l1I : Int32) (s0I : Int32) (S : wPS) (Φ : (Int32 → wPS → Prop)) : Prop :=
  if s0I = 0 then (if l1I < (gDrawings_places S l0A) then (¬ (l1I < 0 ∨ S.len (wkAd (gDrawings_owner S l0A)) ≤ (l1I).toNatClampNeg) ∧ wkLt ((S.rI (wkAd (gDrawings_owner S l0A)) (l1I).toNatClampNeg)) fun x4 => rec 1 l0A l1I x4 (0 : Int32) 0 S Φ) else (Φ (1 : Int32) S)) else (¬ ((l1I - (1 : Int32)) < 0 ∨ S.len (wkAd (gDrawings_owner S l0A)) ≤ ((l1I - (1 : Int32))).toNatClampNeg) ∧ rX2_countWalks F l0A (S.rI (wkAd (gDrawings_owner S l0A)) ((l1I - (1 : Int32))).toNatClampNeg) S fun v6 S7 => ¬ ((l1I - (1 : Int32)) < 0 ∨ S7.len (wkAd (gDrawings_owner S7 l0A)) ≤ ((l1I - (1 : Int32))).toNatClampNeg) ∧ ¬ ((S7.rI (wkAd (gDrawings_owner S7 l0A)) ((l1I - (1 : Int32))).toNatClampNeg) < 0 ∨ S7.len (wkAd (gDrawings_walksDue S7 l0A)) ≤ ((S7.rI (wkAd (gDrawings_owner S7 l0A)) ((l1I - (1 : Int32))).toNatClampNeg)).toNatClampNeg) ∧ if v6 = (S7.rI (wkAd (gDrawings_walksDue S7 l0A)) ((S7.rI (wkAd (gDrawings_owner S7 l0A)) ((l1I - (1 : Int32))).toNatClampNeg)).toNatClampNeg) then (if l1I < (gDrawings_places S7 l0A) then (¬ (l1I < 0 ∨ S7.len (wkAd (gDrawings_owner S7 l0A)) ≤ (l1I).toNatClampNeg) ∧ wkLt ((S7.rI (wkAd (gDrawings_owner S7 l0A)) (l1I).toNatClampNeg)) fun x16 => rec 1 l0A l1I x16 (0 : Int32) 0 S7 Φ) else (Φ (1 : Int32) S7)) else (Φ (0 : Int32) S7))
def rX2_fillsFrom_b1 (F : Nat) (rc : Nat → Int32 → wPS → (Int32 → wPS → Prop) → Prop) (rec : Nat → Nat → Int32 → Int32 → Int32 → Int32 → wPS → (Int32 → wPS → Prop) → Prop) (l0A : Nat) (l1I : Int32) (l3I : Int32) (l4I : Int32) (S : wPS) (Φ : (Int32 → wPS → Prop)) : Prop :=
  if (gDrawings_nodeCount S l0A) ≤ l4I then (Φ (0 : Int32) S) else (¬ (l3I < 0 ∨ S.len (wkAd (gDrawings_near S l0A)) ≤ (l3I).toNatClampNeg) ∧ ¬ (l3I < 0 ∨ S.len (wkAd (gDrawings_used S l0A)) ≤ (l3I).toNatClampNeg) ∧ rX11_has F ((S.rI (wkAd (gDrawings_near S l0A)) (l3I).toNatClampNeg) &&& ((S.rI (wkAd (gDrawings_used S l0A)) (l3I).toNatClampNeg) ^^^ (-1 : Int32))) l4I S fun v20 S21 => if v20 = 0 then (wkLt (l4I + (1 : Int32)) fun x26 => rec 1 l0A l1I l3I x26 0 S21 Φ) else (rX2_setPlace F l0A l1I l4I S21 fun v27 S28 => ¬ (l3I < 0 ∨ S28.len (wkAd (gDrawings_used S28 l0A)) ≤ (l3I).toNatClampNeg) ∧ ¬ (l3I < 0 ∨ S28.len (wkAd (gDrawings_used S28 l0A)) ≤ (l3I).toNatClampNeg) ∧ wkLt (wuI S28 (wkAd (gDrawings_used S28 l0A)) l3I ((S28.rI (wkAd (gDrawings_used S28 l0A)) (l3I).toNatClampNeg) ||| ((1 : Int32) <<< (l4I &&& 31)))) fun S34 => rc l0A (l1I + (1 : Int32)) S34 fun v35 S36 => if v35 = 0 then (¬ (l3I < 0 ∨ S36.len (wkAd (gDrawings_used S36 l0A)) ≤ (l3I).toNatClampNeg) ∧ ¬ (l3I < 0 ∨ S36.len (wkAd (gDrawings_used S36 l0A)) ≤ (l3I).toNatClampNeg) ∧ wkLt (wuI S36 (wkAd (gDrawings_used S36 l0A)) l3I ((S36.rI (wkAd (gDrawings_used S36 l0A)) (l3I).toNatClampNeg) &&& (((1 : Int32) <<< (l4I &&& 31)) ^^^ (-1 : Int32)))) fun S43 => ¬ (l3I < 0 ∨ S43.len (wkAd (gDrawings_firstPlace S43 l0A)) ≤ (l3I).toNatClampNeg) ∧ if l1I = (S43.rI (wkAd (gDrawings_firstPlace S43 l0A)) (l3I).toNatClampNeg) then (Φ (0 : Int32) S43) else (wkLt (l4I + (1 : Int32)) fun x46 => rec 1 l0A l1I l3I x46 0 S43 Φ)) else (Φ (1 : Int32) S36)))
def rX2_fillsFrom_go (F : Nat) (rc : Nat → Int32 → wPS → (Int32 → wPS → Prop) → Prop) : Nat → Nat → Nat → Int32 → Int32 → Int32 → Int32 → wPS → (Int32 → wPS → Prop) → Prop
  | 0, _, _, _, _, _, _, _, _ => False
  | k' + 1, lab, l0A, l1I, l3I, l4I, s0I, S, Φ => if lab = 0 then rX2_fillsFrom_b0 F rc (rX2_fillsFrom_go F rc k') l0A l1I s0I S Φ else if lab = 1 then rX2_fillsFrom_b1 F rc (rX2_fillsFrom_go F rc k') l0A l1I l3I l4I S Φ else False
def rX2_fillsFrom_s (F : Nat) (rc : Nat → Int32 → wPS → (Int32 → wPS → Prop) → Prop) (rec : Nat → Nat → Int32 → Int32 → Int32 → Int32 → wPS → (Int32 → wPS → Prop) → Prop) (l0A : Nat) (l1I : Int32) (S : wPS) (Φ : (Int32 → wPS → Prop)) : Prop :=
  if l1I ≤ 0 then (rec 0 l0A l1I 0 0 (0 : Int32) S Φ) else (if l1I = (gDrawings_places S l0A) then (rec 0 l0A l1I 0 0 (1 : Int32) S Φ) else (¬ (l1I < 0 ∨ S.len (wkAd (gDrawings_owner S l0A)) ≤ (l1I).toNatClampNeg) ∧ ¬ ((l1I - (1 : Int32)) < 0 ∨ S.len (wkAd (gDrawings_owner S l0A)) ≤ ((l1I - (1 : Int32))).toNatClampNeg) ∧ if (S.rI (wkAd (gDrawings_owner S l0A)) (l1I).toNatClampNeg) = (S.rI (wkAd (gDrawings_owner S l0A)) ((l1I - (1 : Int32))).toNatClampNeg) then (rec 0 l0A l1I 0 0 (0 : Int32) S Φ) else (rec 0 l0A l1I 0 0 (1 : Int32) S Φ)))
def rX2_fillsFrom_a (F : Nat) (rc : Nat → Int32 → wPS → (Int32 → wPS → Prop) → Prop) (l0A : Nat) (l1I : Int32) (S : wPS) (Φ : (Int32 → wPS → Prop)) : Prop := rX2_fillsFrom_s F rc (rX2_fillsFrom_go F rc F) l0A l1I S Φ
def rX2_fillsFrom (F : Nat) : Nat → Nat → Int32 → wPS → (Int32 → wPS → Prop) → Prop
  | 0, _, _, _, _ => False
  | j + 1, l0A, l1I, S, Φ => rX2_fillsFrom_a F (rX2_fillsFrom F j) l0A l1I S Φ
set_option maxHeartbeats 4000000 in
set_option maxRecDepth 100000 in
theorem tX2_fillsFrom_go {d0 : Nat} {rc : Nat → Int32 → wPS → (Int32 → wPS → Prop) → Prop} {l : Launch} {X : wkX} {d F : Nat} {S0 : wPS} {Φ : (Int32 → wPS → Prop)} (C : wkC X cX2_fillsFrom RX2 5 wvX2_fillsFrom) (hR : wkRm X d 0 0) (hd : 3 ≤ d) (hrc : ∀ (l0A : Nat) (l1I : Int32) (S : wPS) (Φ : (Int32 → wPS → Prop)), wkWF S → wkIs S l0A 2 → rc l0A l1I S Φ → wkMet l (wkXg X) yX2_fillsFrom wvX2_fillsFrom d0 0 0 [.ref l0A, .int l1I] S (fun v' S'' => ∃ v : Int32, v' = some (.int v) ∧ Φ v S'' ∧ wkWF S'' ∧ wkExt S S'')) (hd0 : d0 + 1 ≤ d) (E : wkEnd l X cX2_fillsFrom 5 (some .boolean) 0 0 (fun v' S'' => ∃ v : Int32, v' = some (.int v) ∧ Φ v S'' ∧ wkWF S'' ∧ wkExt S0 S'')) : ∀ k' : Nat, (∀ (l0A : Nat) (l1I : Int32) (s0I : Int32) (S : wPS), wkWF S → wkExt S0 S → wkIs S l0A 2 → rX2_fillsFrom_go F rc k' 0 l0A l1I 0 0 s0I S Φ → wkGo l X 5 0 0 34 S [some (.ref l0A), some (.int l1I), none, none, none] [.int s0I]) ∧ (∀ (l0A : Nat) (l1I : Int32) (l3I : Int32) (l4I : Int32) (S : wPS), wkWF S → wkExt S0 S → wkIs S l0A 2 → rX2_fillsFrom_go F rc k' 1 l0A l1I l3I l4I 0 S Φ → wkGo l X 5 0 0 89 S [some (.ref l0A), some (.int l1I), none, some (.int l3I), some (.int l4I)] []) := by
  intro k'
  induction k' with
  | zero => exact ⟨fun l0A l1I s0I S hW hE hl0A h => h.elim, fun l0A l1I l3I l4I S hW hE hl0A h => h.elim⟩
  | succ k' ih =>
    refine ⟨?_, ?_⟩
    · intro l0A l1I s0I S hW hE hl0A h
      have h : rX2_fillsFrom_b0 F rc (rX2_fillsFrom_go F rc k') l0A l1I s0I S Φ := by
        rw [rX2_fillsFrom_go, if_pos (rfl : (0 : Nat) = 0)] at h
        exact h
      unfold rX2_fillsFrom_b0 at h
      refine wk_istore_n C (lv' := [some (.ref l0A), some (.int l1I), some (.int s0I), none, none]) dX2_fillsFrom_34 rfl (by decide) rfl ?_
      refine wk_iload_n C dX2_fillsFrom_35 rfl rfl ?_
      refine wk_if_eq C (tgt := 69) dX2_fillsFrom_36 (by decide) (fun c1 => ?_) (fun c1 => ?_)
      · rw [if_pos c1] at h
        refine wk_iload_n C dX2_fillsFrom_69 rfl rfl ?_
        refine wk_aload_n C dX2_fillsFrom_70 rfl rfl ?_
        refine wk_get C (v := .int (gDrawings_places S l0A)) huX2_fillsFrom_2 hl0A.1 (fun cy => wAt_2 cy _ hl0A.2) rfl 9 (by decide) (List.mem_of_getElem? (i := 1) rfl) rfl rfl dX2_fillsFrom_71 ?_
        refine wk_icmp_lt C (tgt := 79) dX2_fillsFrom_74 (by decide) (fun c2 => ?_) (fun c2 => ?_)
        · rw [if_pos c2] at h
          refine wk_aload_n C dX2_fillsFrom_79 rfl rfl ?_
          refine wk_get C huX2_fillsFrom_2 hl0A.1 (fun cy => wAt_2 cy _ hl0A.2) rfl 3 (by decide) (List.mem_of_getElem? (i := 2) rfl) rfl (congrArg some (congrArg va_rf (wf_Drawings_owner hW hl0A).1)) dX2_fillsFrom_80 ?_
          refine wk_iload_n C dX2_fillsFrom_83 rfl rfl ?_
          obtain ⟨i3, h⟩ := h
          refine wk_iald C (wf_Drawings_owner hW hl0A).2.1 (wf_Drawings_owner hW hl0A).2.2 i3 rfl dX2_fillsFrom_84 ?_
          obtain ⟨x4, ex4, h⟩ := wkLt_some h
          refine wk_topi ex4 ?_
          refine wk_istore_n C (lv' := [some (.ref l0A), some (.int l1I), some (.int s0I), some (.int x4), none]) dX2_fillsFrom_85 rfl (by decide) rfl ?_
          refine wk_iconst C (v := 0) dX2_fillsFrom_86 (by decide) ?_
          refine wk_istore C (lv' := [some (.ref l0A), some (.int l1I), some (.int s0I), some (.int x4), some (.int (0 : Int32))]) dX2_fillsFrom_87 (by decide) rfl ?_
          exact wk_forget (lv' := [some (.ref l0A), some (.int l1I), none, some (.int x4), some (.int (0 : Int32))]) (wkLs.le ⟨rfl, rfl, rfl, rfl, trivial⟩) (ih.2 _ _ _ _ _ hW hE hl0A h)
        · rw [if_neg c2] at h
          refine wk_iconst C (v := 1) dX2_fillsFrom_77 (by decide) ?_
          exact E _ _ _ _ _ _ (Nat.le_refl 0) (Nat.le_refl 0) dX2_fillsFrom_78 rfl ⟨(1 : Int32), rfl, h, hW, hE⟩
      · rw [if_neg c1] at h
        refine wk_aload_n C dX2_fillsFrom_39 rfl rfl ?_
        refine wk_aload_n C dX2_fillsFrom_40 rfl rfl ?_
        refine wk_get C huX2_fillsFrom_2 hl0A.1 (fun cy => wAt_2 cy _ hl0A.2) rfl 3 (by decide) (List.mem_of_getElem? (i := 2) rfl) rfl (congrArg some (congrArg va_rf (wf_Drawings_owner hW hl0A).1)) dX2_fillsFrom_41 ?_
        refine wk_iload_n C dX2_fillsFrom_44 rfl rfl ?_
        refine wk_iconst C (v := 1) dX2_fillsFrom_45 (by decide) ?_
        refine wk_isub C dX2_fillsFrom_46 rfl ?_
        obtain ⟨i5, h⟩ := h
        refine wk_iald C (wf_Drawings_owner hW hl0A).2.1 (wf_Drawings_owner hW hl0A).2.2 i5 rfl dX2_fillsFrom_47 ?_
        refine wk_callV C hR (As := [.int (S.rI (wkAd (gDrawings_owner S l0A)) ((l1I - (1 : Int32))).toNatClampNeg)]) (cnt := 1) (tX2_countWalks (l := l) hW hl0A h) rfl (wkGoodV (List.mem_of_getElem? (i := 3) rfl) (List.mem_of_getElem? (i := 4) rfl) (List.mem_of_getElem? (i := 5) rfl) (List.mem_of_getElem? (i := 6) rfl) hbX2_fillsFrom_X2_countWalks gdX2_countWalks) (Nat.le_trans (by decide : 2 + 1 ≤ 3) hd) (by decide) hl0A.1 (fun cy => wAt_2 cy _ hl0A.2) rfl ⟨by decide, by decide, by decide +kernel⟩ rfl rfl (Nat.le_of_ble_eq_true rfl) (Nat.le_refl 0) (Nat.le_refl 0) dX2_fillsFrom_48 (fun v' S7 hp => ?_)
        obtain ⟨v6, rfl, h, hWS7, hXS7⟩ := hp
        refine wk_aload_n C dX2_fillsFrom_51 rfl rfl ?_
        refine wk_get C huX2_fillsFrom_2 (hXS7 _ _ hl0A).1 (fun cy => wAt_2 cy _ (hXS7 _ _ hl0A).2) rfl 6 (by decide) (List.mem_of_getElem? (i := 7) rfl) rfl (congrArg some (congrArg va_rf (wf_Drawings_walksDue hWS7 (hXS7 _ _ hl0A)).1)) dX2_fillsFrom_52 ?_
        refine wk_aload_n C dX2_fillsFrom_55 rfl rfl ?_
        refine wk_get C huX2_fillsFrom_2 (hXS7 _ _ hl0A).1 (fun cy => wAt_2 cy _ (hXS7 _ _ hl0A).2) rfl 3 (by decide) (List.mem_of_getElem? (i := 2) rfl) rfl (congrArg some (congrArg va_rf (wf_Drawings_owner hWS7 (hXS7 _ _ hl0A)).1)) dX2_fillsFrom_56 ?_
        refine wk_iload_n C dX2_fillsFrom_59 rfl rfl ?_
        refine wk_iconst C (v := 1) dX2_fillsFrom_60 (by decide) ?_
        refine wk_isub C dX2_fillsFrom_61 rfl ?_
        obtain ⟨i11, h⟩ := h
        refine wk_iald C (wf_Drawings_owner hWS7 (hXS7 _ _ hl0A)).2.1 (wf_Drawings_owner hWS7 (hXS7 _ _ hl0A)).2.2 i11 rfl dX2_fillsFrom_62 ?_
        obtain ⟨i12, h⟩ := h
        refine wk_iald C (wf_Drawings_walksDue hWS7 (hXS7 _ _ hl0A)).2.1 (wf_Drawings_walksDue hWS7 (hXS7 _ _ hl0A)).2.2 i12 rfl dX2_fillsFrom_63 ?_
        refine wk_icmp_eq C (tgt := 69) dX2_fillsFrom_64 (by decide) (fun c13 => ?_) (fun c13 => ?_)
        · rw [if_pos c13] at h
          refine wk_iload_n C dX2_fillsFrom_69 rfl rfl ?_
          refine wk_aload_n C dX2_fillsFrom_70 rfl rfl ?_
          refine wk_get C (v := .int (gDrawings_places S7 l0A)) huX2_fillsFrom_2 (hXS7 _ _ hl0A).1 (fun cy => wAt_2 cy _ (hXS7 _ _ hl0A).2) rfl 9 (by decide) (List.mem_of_getElem? (i := 1) rfl) rfl rfl dX2_fillsFrom_71 ?_
          refine wk_icmp_lt C (tgt := 79) dX2_fillsFrom_74 (by decide) (fun c14 => ?_) (fun c14 => ?_)
          · rw [if_pos c14] at h
            refine wk_aload_n C dX2_fillsFrom_79 rfl rfl ?_
            refine wk_get C huX2_fillsFrom_2 (hXS7 _ _ hl0A).1 (fun cy => wAt_2 cy _ (hXS7 _ _ hl0A).2) rfl 3 (by decide) (List.mem_of_getElem? (i := 2) rfl) rfl (congrArg some (congrArg va_rf (wf_Drawings_owner hWS7 (hXS7 _ _ hl0A)).1)) dX2_fillsFrom_80 ?_
            refine wk_iload_n C dX2_fillsFrom_83 rfl rfl ?_
            obtain ⟨i15, h⟩ := h
            refine wk_iald C (wf_Drawings_owner hWS7 (hXS7 _ _ hl0A)).2.1 (wf_Drawings_owner hWS7 (hXS7 _ _ hl0A)).2.2 i15 rfl dX2_fillsFrom_84 ?_
            obtain ⟨x16, ex16, h⟩ := wkLt_some h
            refine wk_topi ex16 ?_
            refine wk_istore_n C (lv' := [some (.ref l0A), some (.int l1I), some (.int s0I), some (.int x16), none]) dX2_fillsFrom_85 rfl (by decide) rfl ?_
            refine wk_iconst C (v := 0) dX2_fillsFrom_86 (by decide) ?_
            refine wk_istore C (lv' := [some (.ref l0A), some (.int l1I), some (.int s0I), some (.int x16), some (.int (0 : Int32))]) dX2_fillsFrom_87 (by decide) rfl ?_
            exact wk_forget (lv' := [some (.ref l0A), some (.int l1I), none, some (.int x16), some (.int (0 : Int32))]) (wkLs.le ⟨rfl, rfl, rfl, rfl, trivial⟩) (ih.2 _ _ _ _ _ hWS7 (wkExt.tr hE hXS7) (hXS7 _ _ hl0A) h)
          · rw [if_neg c14] at h
            refine wk_iconst C (v := 1) dX2_fillsFrom_77 (by decide) ?_
            exact E _ _ _ _ _ _ (Nat.le_refl 0) (Nat.le_refl 0) dX2_fillsFrom_78 rfl ⟨(1 : Int32), rfl, h, hWS7, (wkExt.tr hE hXS7)⟩
        · rw [if_neg c13] at h
          refine wk_iconst C (v := 0) dX2_fillsFrom_67 (by decide) ?_
          exact E _ _ _ _ _ _ (Nat.le_refl 0) (Nat.le_refl 0) dX2_fillsFrom_68 rfl ⟨(0 : Int32), rfl, h, hWS7, (wkExt.tr hE hXS7)⟩
    · intro l0A l1I l3I l4I S hW hE hl0A h
      have h : rX2_fillsFrom_b1 F rc (rX2_fillsFrom_go F rc k') l0A l1I l3I l4I S Φ := by
        rw [rX2_fillsFrom_go, if_neg (show ¬ (1 : Nat) = 0 by decide), if_pos (rfl : (1 : Nat) = 1)] at h
        exact h
      unfold rX2_fillsFrom_b1 at h
      refine wk_iload C dX2_fillsFrom_89 rfl ?_
      refine wk_aload_n C dX2_fillsFrom_91 rfl rfl ?_
      refine wk_get C (v := .int (gDrawings_nodeCount S l0A)) huX2_fillsFrom_2 hl0A.1 (fun cy => wAt_2 cy _ hl0A.2) rfl 8 (by decide) (List.mem_of_getElem? (i := 8) rfl) rfl rfl dX2_fillsFrom_92 ?_
      refine wk_icmp_ge C (tgt := 186) dX2_fillsFrom_95 (by decide) (fun c17 => ?_) (fun c17 => ?_)
      · rw [if_pos c17] at h
        refine wk_iconst C (v := 0) dX2_fillsFrom_186 (by decide) ?_
        exact E _ _ _ _ _ _ (Nat.le_refl 0) (Nat.le_refl 0) dX2_fillsFrom_187 rfl ⟨(0 : Int32), rfl, h, hW, hE⟩
      · rw [if_neg c17] at h
        refine wk_aload_n C dX2_fillsFrom_98 rfl rfl ?_
        refine wk_get C huX2_fillsFrom_2 hl0A.1 (fun cy => wAt_2 cy _ hl0A.2) rfl 0 (by decide) (List.mem_of_getElem? (i := 9) rfl) rfl (congrArg some (congrArg va_rf (wf_Drawings_near hW hl0A).1)) dX2_fillsFrom_99 ?_
        refine wk_iload_n C dX2_fillsFrom_102 rfl rfl ?_
        obtain ⟨i18, h⟩ := h
        refine wk_iald C (wf_Drawings_near hW hl0A).2.1 (wf_Drawings_near hW hl0A).2.2 i18 rfl dX2_fillsFrom_103 ?_
        refine wk_aload_n C dX2_fillsFrom_104 rfl rfl ?_
        refine wk_get C huX2_fillsFrom_2 hl0A.1 (fun cy => wAt_2 cy _ hl0A.2) rfl 1 (by decide) (List.mem_of_getElem? (i := 10) rfl) rfl (congrArg some (congrArg va_rf (wf_Drawings_used hW hl0A).1)) dX2_fillsFrom_105 ?_
        refine wk_iload_n C dX2_fillsFrom_108 rfl rfl ?_
        obtain ⟨i19, h⟩ := h
        refine wk_iald C (wf_Drawings_used hW hl0A).2.1 (wf_Drawings_used hW hl0A).2.2 i19 rfl dX2_fillsFrom_109 ?_
        refine wk_iconst C (v := (-1)) dX2_fillsFrom_110 (by decide) ?_
        refine wk_ixor C dX2_fillsFrom_111 rfl ?_
        refine wk_iand C dX2_fillsFrom_112 rfl ?_
        refine wk_iload C dX2_fillsFrom_113 rfl ?_
        refine wk_callN C hR (y := yX11_has) (host := "Witnessworks") (As := [.int ((S.rI (wkAd (gDrawings_near S l0A)) (l3I).toNatClampNeg) &&& ((S.rI (wkAd (gDrawings_used S l0A)) (l3I).toNatClampNeg) ^^^ (-1 : Int32))), .int l4I]) (cnt := 2) (tX11_has (l := l) hW  h) rfl (fun w h => ⟨hbX2_fillsFrom_X11_has w h, gdX11_has w h⟩) (by decide +kernel) (List.mem_of_getElem? (i := 11) rfl) (List.mem_of_getElem? (i := 12) rfl) (Nat.le_trans (by decide : 0 + 1 ≤ 3) hd) (by decide) ⟨by decide, by decide, by decide +kernel⟩ rfl rfl (Nat.le_of_ble_eq_true rfl) (Nat.le_refl 0) (Nat.le_refl 0) dX2_fillsFrom_115 (fun v' S21 hp => ?_)
        obtain ⟨v20, rfl, h, hWS21, hXS21⟩ := hp
        refine wk_if_eq C (tgt := 180) dX2_fillsFrom_118 (by decide) (fun c25 => ?_) (fun c25 => ?_)
        · rw [if_pos c25] at h
          obtain ⟨x26, ex26, h⟩ := wkLt_some h
          refine wk_iinc C (lv' := [some (.ref l0A), some (.int l1I), none, some (.int l3I), some (.int x26)]) dX2_fillsFrom_180 rfl (by rw [ex26]; rfl) (by decide) rfl ?_
          refine wk_goto C (tgt := 89) dX2_fillsFrom_183 (by decide) ?_
          exact wk_forget (lv' := [some (.ref l0A), some (.int l1I), none, some (.int l3I), some (.int x26)]) (wkLs.le ⟨rfl, rfl, rfl, rfl, trivial⟩) (ih.2 _ _ _ _ _ hWS21 (wkExt.tr hE hXS21) (hXS21 _ _ hl0A) h)
        · rw [if_neg c25] at h
          refine wk_aload_n C dX2_fillsFrom_121 rfl rfl ?_
          refine wk_iload_n C dX2_fillsFrom_122 rfl rfl ?_
          refine wk_iload C dX2_fillsFrom_123 rfl ?_
          refine wk_callV C hR (As := [.int l1I, .int l4I]) (cnt := 2) (tX2_setPlace (l := l) hWS21 (hXS21 _ _ hl0A) h) rfl (wkGoodV (List.mem_of_getElem? (i := 13) rfl) (List.mem_of_getElem? (i := 14) rfl) (List.mem_of_getElem? (i := 15) rfl) (List.mem_of_getElem? (i := 6) rfl) hbX2_fillsFrom_X2_setPlace gdX2_setPlace) (Nat.le_trans (by decide : 0 + 1 ≤ 3) hd) (by decide) (hXS21 _ _ hl0A).1 (fun cy => wAt_2 cy _ (hXS21 _ _ hl0A).2) rfl ⟨by decide, by decide, by decide +kernel⟩ rfl rfl (Nat.le_of_ble_eq_true rfl) (Nat.le_refl 0) (Nat.le_refl 0) dX2_fillsFrom_125 (fun v' S28 hp => ?_)
          obtain ⟨v27, rfl, h, hWS28, hXS28⟩ := hp
          refine wk_aload_n C dX2_fillsFrom_128 rfl rfl ?_
          refine wk_get C huX2_fillsFrom_2 (hXS28 _ _ (hXS21 _ _ hl0A)).1 (fun cy => wAt_2 cy _ (hXS28 _ _ (hXS21 _ _ hl0A)).2) rfl 1 (by decide) (List.mem_of_getElem? (i := 10) rfl) rfl (congrArg some (congrArg va_rf (wf_Drawings_used hWS28 (hXS28 _ _ (hXS21 _ _ hl0A))).1)) dX2_fillsFrom_129 ?_
          refine wk_iload_n C dX2_fillsFrom_132 rfl rfl ?_
          refine wk_dup2 C dX2_fillsFrom_133 rfl rfl ?_
          obtain ⟨i32, h⟩ := h
          refine wk_iald C (wf_Drawings_used hWS28 (hXS28 _ _ (hXS21 _ _ hl0A))).2.1 (wf_Drawings_used hWS28 (hXS28 _ _ (hXS21 _ _ hl0A))).2.2 i32 rfl dX2_fillsFrom_134 ?_
          refine wk_iconst C (v := 1) dX2_fillsFrom_135 (by decide) ?_
          refine wk_iload C dX2_fillsFrom_136 rfl ?_
          refine wk_ishl C dX2_fillsFrom_138 rfl ?_
          refine wk_ior C dX2_fillsFrom_139 rfl ?_
          obtain ⟨i33, h⟩ := h
          obtain ⟨S34, eS34, h⟩ := wkLt_some h
          refine wk_iast C (wf_Drawings_used hWS28 (hXS28 _ _ (hXS21 _ _ hl0A))).2.1 (wf_Drawings_used hWS28 (hXS28 _ _ (hXS21 _ _ hl0A))).2.2 i33 eS34.symm dX2_fillsFrom_140 ?_
          have hWS34 : wkWF S34 := by rw [eS34]; exact hWS28
          have hXS34 : wkExt S28 S34 := by rw [eS34]; exact wkExt.rf
          refine wk_aload_n C dX2_fillsFrom_141 rfl rfl ?_
          refine wk_iload_n C dX2_fillsFrom_142 rfl rfl ?_
          refine wk_iconst C (v := 1) dX2_fillsFrom_143 (by decide) ?_
          refine wk_iadd C dX2_fillsFrom_144 rfl ?_
          refine wk_callV C hR (As := [.int (l1I + (1 : Int32))]) (cnt := 1) (hrc _ _ _ _ hWS34 (hXS34 _ _ (hXS28 _ _ (hXS21 _ _ hl0A))) h) rfl (wkGoodV (List.mem_of_getElem? (i := 16) rfl) (List.mem_of_getElem? (i := 17) rfl) (List.mem_of_getElem? (i := 18) rfl) (List.mem_of_getElem? (i := 6) rfl) (fun w h => h) gdX2_fillsFrom) hd0 (by decide) (hXS34 _ _ (hXS28 _ _ (hXS21 _ _ hl0A))).1 (fun cy => wAt_2 cy _ (hXS34 _ _ (hXS28 _ _ (hXS21 _ _ hl0A))).2) rfl ⟨by decide, by decide, by decide +kernel⟩ rfl rfl (Nat.le_of_ble_eq_true rfl) (Nat.le_refl 0) (Nat.le_refl 0) dX2_fillsFrom_145 (fun v' S36 hp => ?_)
          obtain ⟨v35, rfl, h, hWS36, hXS36⟩ := hp
          refine wk_if_eq C (tgt := 153) dX2_fillsFrom_148 (by decide) (fun c40 => ?_) (fun c40 => ?_)
          · rw [if_pos c40] at h
            refine wk_aload_n C dX2_fillsFrom_153 rfl rfl ?_
            refine wk_get C huX2_fillsFrom_2 (hXS36 _ _ (hXS34 _ _ (hXS28 _ _ (hXS21 _ _ hl0A)))).1 (fun cy => wAt_2 cy _ (hXS36 _ _ (hXS34 _ _ (hXS28 _ _ (hXS21 _ _ hl0A)))).2) rfl 1 (by decide) (List.mem_of_getElem? (i := 10) rfl) rfl (congrArg some (congrArg va_rf (wf_Drawings_used hWS36 (hXS36 _ _ (hXS34 _ _ (hXS28 _ _ (hXS21 _ _ hl0A))))).1)) dX2_fillsFrom_154 ?_
            refine wk_iload_n C dX2_fillsFrom_157 rfl rfl ?_
            refine wk_dup2 C dX2_fillsFrom_158 rfl rfl ?_
            obtain ⟨i41, h⟩ := h
            refine wk_iald C (wf_Drawings_used hWS36 (hXS36 _ _ (hXS34 _ _ (hXS28 _ _ (hXS21 _ _ hl0A))))).2.1 (wf_Drawings_used hWS36 (hXS36 _ _ (hXS34 _ _ (hXS28 _ _ (hXS21 _ _ hl0A))))).2.2 i41 rfl dX2_fillsFrom_159 ?_
            refine wk_iconst C (v := 1) dX2_fillsFrom_160 (by decide) ?_
            refine wk_iload C dX2_fillsFrom_161 rfl ?_
            refine wk_ishl C dX2_fillsFrom_163 rfl ?_
            refine wk_iconst C (v := (-1)) dX2_fillsFrom_164 (by decide) ?_
            refine wk_ixor C dX2_fillsFrom_165 rfl ?_
            refine wk_iand C dX2_fillsFrom_166 rfl ?_
            obtain ⟨i42, h⟩ := h
            obtain ⟨S43, eS43, h⟩ := wkLt_some h
            refine wk_iast C (wf_Drawings_used hWS36 (hXS36 _ _ (hXS34 _ _ (hXS28 _ _ (hXS21 _ _ hl0A))))).2.1 (wf_Drawings_used hWS36 (hXS36 _ _ (hXS34 _ _ (hXS28 _ _ (hXS21 _ _ hl0A))))).2.2 i42 eS43.symm dX2_fillsFrom_167 ?_
            have hWS43 : wkWF S43 := by rw [eS43]; exact hWS36
            have hXS43 : wkExt S36 S43 := by rw [eS43]; exact wkExt.rf
            refine wk_iload_n C dX2_fillsFrom_168 rfl rfl ?_
            refine wk_aload_n C dX2_fillsFrom_169 rfl rfl ?_
            refine wk_get C huX2_fillsFrom_2 (hXS43 _ _ (hXS36 _ _ (hXS34 _ _ (hXS28 _ _ (hXS21 _ _ hl0A))))).1 (fun cy => wAt_2 cy _ (hXS43 _ _ (hXS36 _ _ (hXS34 _ _ (hXS28 _ _ (hXS21 _ _ hl0A))))).2) rfl 2 (by decide) (List.mem_of_getElem? (i := 19) rfl) rfl (congrArg some (congrArg va_rf (wf_Drawings_firstPlace hWS43 (hXS43 _ _ (hXS36 _ _ (hXS34 _ _ (hXS28 _ _ (hXS21 _ _ hl0A)))))).1)) dX2_fillsFrom_170 ?_
            refine wk_iload_n C dX2_fillsFrom_173 rfl rfl ?_
            obtain ⟨i44, h⟩ := h
            refine wk_iald C (wf_Drawings_firstPlace hWS43 (hXS43 _ _ (hXS36 _ _ (hXS34 _ _ (hXS28 _ _ (hXS21 _ _ hl0A)))))).2.1 (wf_Drawings_firstPlace hWS43 (hXS43 _ _ (hXS36 _ _ (hXS34 _ _ (hXS28 _ _ (hXS21 _ _ hl0A)))))).2.2 i44 rfl dX2_fillsFrom_174 ?_
            refine wk_icmp_ne C (tgt := 180) dX2_fillsFrom_175 (by decide) (fun c45 => ?_) (fun c45 => ?_)
            · rw [if_neg c45] at h
              obtain ⟨x46, ex46, h⟩ := wkLt_some h
              refine wk_iinc C (lv' := [some (.ref l0A), some (.int l1I), none, some (.int l3I), some (.int x46)]) dX2_fillsFrom_180 rfl (by rw [ex46]; rfl) (by decide) rfl ?_
              refine wk_goto C (tgt := 89) dX2_fillsFrom_183 (by decide) ?_
              exact wk_forget (lv' := [some (.ref l0A), some (.int l1I), none, some (.int l3I), some (.int x46)]) (wkLs.le ⟨rfl, rfl, rfl, rfl, trivial⟩) (ih.2 _ _ _ _ _ hWS43 (wkExt.tr (wkExt.tr (wkExt.tr (wkExt.tr (wkExt.tr hE hXS21) hXS28) hXS34) hXS36) hXS43) (hXS43 _ _ (hXS36 _ _ (hXS34 _ _ (hXS28 _ _ (hXS21 _ _ hl0A))))) h)
            · rw [if_pos c45] at h
              refine wk_iconst C (v := 0) dX2_fillsFrom_178 (by decide) ?_
              exact E _ _ _ _ _ _ (Nat.le_refl 0) (Nat.le_refl 0) dX2_fillsFrom_179 rfl ⟨(0 : Int32), rfl, h, hWS43, (wkExt.tr (wkExt.tr (wkExt.tr (wkExt.tr (wkExt.tr hE hXS21) hXS28) hXS34) hXS36) hXS43)⟩
          · rw [if_neg c40] at h
            refine wk_iconst C (v := 1) dX2_fillsFrom_151 (by decide) ?_
            exact E _ _ _ _ _ _ (Nat.le_refl 0) (Nat.le_refl 0) dX2_fillsFrom_152 rfl ⟨(1 : Int32), rfl, h, hWS36, (wkExt.tr (wkExt.tr (wkExt.tr (wkExt.tr hE hXS21) hXS28) hXS34) hXS36)⟩
set_option maxHeartbeats 4000000 in
set_option maxRecDepth 100000 in
theorem tX2_fillsFrom_a {l : Launch} {g : wkG} {F d0 : Nat} {rc : Nat → Int32 → wPS → (Int32 → wPS → Prop) → Prop} (hrc : ∀ (l0A : Nat) (l1I : Int32) (S : wPS) (Φ : (Int32 → wPS → Prop)), wkWF S → wkIs S l0A 2 → rc l0A l1I S Φ → wkMet l g yX2_fillsFrom wvX2_fillsFrom d0 0 0 [.ref l0A, .int l1I] S (fun v' S'' => ∃ v : Int32, v' = some (.int v) ∧ Φ v S'' ∧ wkWF S'' ∧ wkExt S S'')) {S : wPS} {l0A : Nat} {l1I : Int32} {Φ : (Int32 → wPS → Prop)} (hW : wkWF S) (hl0A : wkIs S l0A 2) (h : rX2_fillsFrom_a F rc l0A l1I S Φ) {d : Nat} (hd0 : d0 + 1 ≤ d) (hd : 3 ≤ d) : wkMet l g yX2_fillsFrom wvX2_fillsFrom d 0 0 [.ref l0A, .int l1I] S (fun v' S'' => ∃ v : Int32, v' = some (.int v) ∧ Φ v S'' ∧ wkWF S'' ∧ wkExt S S'') := by
  refine wkMet_of (ret := (some .boolean)) (by decide) rfl (Nat.le_of_ble_eq_true rfl) (fun X hg C hR E => ?_)
  subst hg
  have hE : wkExt S S := wkExt.rf
  show wkGo l X 5 0 0 0 S [some (.ref l0A), some (.int l1I), none, none, none] []
  have ih := tX2_fillsFrom_go (F := F) C hR hd hrc hd0 E F
  have h : rX2_fillsFrom_s F rc (rX2_fillsFrom_go F rc F) l0A l1I S Φ := h
  unfold rX2_fillsFrom_s at h
  refine wk_iload_n C dX2_fillsFrom_0 rfl rfl ?_
  refine wk_if_le C (tgt := 33) dX2_fillsFrom_1 (by decide) (fun c47 => ?_) (fun c47 => ?_)
  · rw [if_pos c47] at h
    refine wk_iconst C (v := 0) dX2_fillsFrom_33 (by decide) ?_
    exact wk_forget (lv' := [some (.ref l0A), some (.int l1I), none, none, none]) (wkLs.le ⟨rfl, rfl, trivial⟩) (ih.1 _ _ _ _ hW hE hl0A h)
  · rw [if_neg c47] at h
    refine wk_iload_n C dX2_fillsFrom_4 rfl rfl ?_
    refine wk_aload_n C dX2_fillsFrom_5 rfl rfl ?_
    refine wk_get C (v := .int (gDrawings_places S l0A)) huX2_fillsFrom_2 hl0A.1 (fun cy => wAt_2 cy _ hl0A.2) rfl 9 (by decide) (List.mem_of_getElem? (i := 1) rfl) rfl rfl dX2_fillsFrom_6 ?_
    refine wk_icmp_eq C (tgt := 29) dX2_fillsFrom_9 (by decide) (fun c48 => ?_) (fun c48 => ?_)
    · rw [if_pos c48] at h
      refine wk_iconst C (v := 1) dX2_fillsFrom_29 (by decide) ?_
      refine wk_goto C (tgt := 34) dX2_fillsFrom_30 (by decide) ?_
      exact wk_forget (lv' := [some (.ref l0A), some (.int l1I), none, none, none]) (wkLs.le ⟨rfl, rfl, trivial⟩) (ih.1 _ _ _ _ hW hE hl0A h)
    · rw [if_neg c48] at h
      refine wk_aload_n C dX2_fillsFrom_12 rfl rfl ?_
      refine wk_get C huX2_fillsFrom_2 hl0A.1 (fun cy => wAt_2 cy _ hl0A.2) rfl 3 (by decide) (List.mem_of_getElem? (i := 2) rfl) rfl (congrArg some (congrArg va_rf (wf_Drawings_owner hW hl0A).1)) dX2_fillsFrom_13 ?_
      refine wk_iload_n C dX2_fillsFrom_16 rfl rfl ?_
      obtain ⟨i49, h⟩ := h
      refine wk_iald C (wf_Drawings_owner hW hl0A).2.1 (wf_Drawings_owner hW hl0A).2.2 i49 rfl dX2_fillsFrom_17 ?_
      refine wk_aload_n C dX2_fillsFrom_18 rfl rfl ?_
      refine wk_get C huX2_fillsFrom_2 hl0A.1 (fun cy => wAt_2 cy _ hl0A.2) rfl 3 (by decide) (List.mem_of_getElem? (i := 2) rfl) rfl (congrArg some (congrArg va_rf (wf_Drawings_owner hW hl0A).1)) dX2_fillsFrom_19 ?_
      refine wk_iload_n C dX2_fillsFrom_22 rfl rfl ?_
      refine wk_iconst C (v := 1) dX2_fillsFrom_23 (by decide) ?_
      refine wk_isub C dX2_fillsFrom_24 rfl ?_
      obtain ⟨i50, h⟩ := h
      refine wk_iald C (wf_Drawings_owner hW hl0A).2.1 (wf_Drawings_owner hW hl0A).2.2 i50 rfl dX2_fillsFrom_25 ?_
      refine wk_icmp_eq C (tgt := 33) dX2_fillsFrom_26 (by decide) (fun c51 => ?_) (fun c51 => ?_)
      · rw [if_pos c51] at h
        refine wk_iconst C (v := 0) dX2_fillsFrom_33 (by decide) ?_
        exact wk_forget (lv' := [some (.ref l0A), some (.int l1I), none, none, none]) (wkLs.le ⟨rfl, rfl, trivial⟩) (ih.1 _ _ _ _ hW hE hl0A h)
      · rw [if_neg c51] at h
        refine wk_iconst C (v := 1) dX2_fillsFrom_29 (by decide) ?_
        refine wk_goto C (tgt := 34) dX2_fillsFrom_30 (by decide) ?_
        exact wk_forget (lv' := [some (.ref l0A), some (.int l1I), none, none, none]) (wkLs.le ⟨rfl, rfl, trivial⟩) (ih.1 _ _ _ _ hW hE hl0A h)
theorem tX2_fillsFrom_d {l : Launch} {g : wkG} {F : Nat} : ∀ (j : Nat) (l0A : Nat) (l1I : Int32) (S : wPS) (Φ : (Int32 → wPS → Prop)), wkWF S → wkIs S l0A 2 → rX2_fillsFrom F j l0A l1I S Φ → wkMet l g yX2_fillsFrom wvX2_fillsFrom (3 + j) 0 0 [.ref l0A, .int l1I] S (fun v' S'' => ∃ v : Int32, v' = some (.int v) ∧ Φ v S'' ∧ wkWF S'' ∧ wkExt S S'')
  | 0, _, _, _, _, _, _,  h => h.elim
  | j + 1, _, _, S, Φ, hW, hl0A,  h => tX2_fillsFrom_a (d0 := 3 + j) (tX2_fillsFrom_d j) hW hl0A (d := 3 + (j + 1)) h (by omega) (by omega)
theorem tX2_fillsFrom {l : Launch} {g : wkG} {F : Nat} {S : wPS} {l0A : Nat} {l1I : Int32} {Φ : (Int32 → wPS → Prop)} (hW : wkWF S) (hl0A : wkIs S l0A 2) (h : rX2_fillsFrom F 48 l0A l1I S Φ) : wkMet l g yX2_fillsFrom wvX2_fillsFrom 51 0 0 [.ref l0A, .int l1I] S (fun v' S'' => ∃ v : Int32, v' = some (.int v) ∧ Φ v S'' ∧ wkWF S'' ∧ wkExt S S'') := tX2_fillsFrom_d 48 _ _ S Φ hW hl0A h
