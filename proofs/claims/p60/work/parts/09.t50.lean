def wvJ0_length_8abf5 : List Cond := .code yJ0_length_8abf5 cJ0_length_8abf5 1 (some .int) :: (([.fieldLink RJ0 9 "java/lang/String" "value" "[B", .methodLink RJ0 335 yJ0_coder_7d493, .instanceMethod yJ0_coder_7d493, .selects RJ0 yJ0_coder_7d493 yJ0_coder_7d493, .initialized RJ0] : List Cond) ++ (([]) ++ (wvJ0_coder_7d493)))
theorem hbJ0_length_8abf5_J0_coder_7d493 : ∀ w ∈ wvJ0_coder_7d493, w ∈ wvJ0_length_8abf5 := fun w h => List.mem_cons_of_mem _ (List.mem_append_right _ (List.mem_append_right _ h))
theorem gdJ0_length_8abf5 : ∀ w ∈ wvJ0_length_8abf5, wkGd w := wkGdC rfl (wkGdA (wkGdL (by decide +kernel)) (wkGdA (fun _ h => absurd h List.not_mem_nil) gdJ0_coder_7d493))
def rJ0_length_8abf5 (F : Nat)  (S : wPS) (Φ : (Int32 → wPS → Prop)) : Prop :=
  Φ ((12 : Int32) >>> ((0 : Int32) &&& 31)) S
set_option maxHeartbeats 4000000 in
set_option maxRecDepth 100000 in
theorem tJ0_length_8abf5 {l : Launch} {g : wkG} {F : Nat}  {S : wPS} {l0A : Nat} {Φ : (Int32 → wPS → Prop)} (hstr : wkStr g) (hW : wkWF S) (hl0A : l0A = g.1 5) (h : rJ0_length_8abf5 F  S Φ) : wkMet l g yJ0_length_8abf5 wvJ0_length_8abf5 1 0 0 [.ref l0A] S (fun v' S'' => ∃ v : Int32, v' = some (.int v) ∧ Φ v S'' ∧ wkWF S'' ∧ wkExt S S'') := by
  refine wkMet_of (ret := (some .int)) (by decide) rfl (Nat.le_of_ble_eq_true rfl) (fun X hg C hR E => ?_)
  subst hg
  have hE : wkExt S S := wkExt.rf
  have hd : 1 ≤ 1 := Nat.le_refl _
  show wkGo l X 1 0 0 0 S [some (.ref l0A)] []
  unfold rJ0_length_8abf5 at h
  refine wk_aload_n C dJ0_length_8abf5_0 rfl rfl ?_
  refine wk_sval C hstr hl0A (List.mem_of_getElem? (i := 1) rfl) dJ0_length_8abf5_1 ?_
  refine wk_slen C hstr rfl dJ0_length_8abf5_4 ?_
  refine wk_aload_n C dJ0_length_8abf5_5 rfl rfl ?_
  refine wk_callVS C hstr hR (As := []) (cnt := 0) (tJ0_coder_7d493 (l := l) (F := F) (Φ := fun v S'' => v = (0 : Int32) ∧ S'' = S) hstr hW hl0A ⟨by decide, rfl⟩) rfl (wkGoodV (List.mem_of_getElem? (i := 2) rfl) (List.mem_of_getElem? (i := 3) rfl) (List.mem_of_getElem? (i := 4) rfl) (List.mem_of_getElem? (i := 5) rfl) hbJ0_length_8abf5_J0_coder_7d493 gdJ0_coder_7d493) (Nat.le_trans (by decide : 0 + 1 ≤ 1) hd) (by decide) hl0A rfl ⟨by decide, by decide, by decide +kernel⟩ rfl rfl (Nat.le_of_ble_eq_true rfl) (Nat.le_refl 0) (Nat.le_refl 0) dJ0_length_8abf5_6 (fun v' S2 hp => ?_)
  obtain ⟨v1, rfl, ⟨ev1, eS2⟩, -, -⟩ := hp
  rw [ev1, eS2]
  refine wk_ishr C dJ0_length_8abf5_9 rfl ?_
  exact E _ _ _ _ _ _ (Nat.le_refl 0) (Nat.le_refl 0) dJ0_length_8abf5_10 ⟨((12 : Int32) >>> ((0 : Int32) &&& 31)), rfl, h, hW, hE⟩
def wvJ0_checkIndex_df160 : List Cond := .code yJ0_checkIndex_df160 cJ0_checkIndex_df160 2 none :: (([.fieldLink RJ0 1053 "jdk/internal/util/Preconditions" "SIOOBE_FORMATTER" "Ljava/util/function/BiFunction;", .methodLink RJ0 1059 yJ3_checkIndex_8e157, .static yJ3_checkIndex_8e157, .initialized RJ3] : List Cond) ++ (([]) ++ (wvJ3_checkIndex_8e157)))
theorem hbJ0_checkIndex_df160_J3_checkIndex_8e157 : ∀ w ∈ wvJ3_checkIndex_8e157, w ∈ wvJ0_checkIndex_df160 := fun w h => List.mem_cons_of_mem _ (List.mem_append_right _ (List.mem_append_right _ h))
theorem gdJ0_checkIndex_df160 : ∀ w ∈ wvJ0_checkIndex_df160, wkGd w := wkGdC rfl (wkGdA (wkGdL (by decide +kernel)) (wkGdA (fun _ h => absurd h List.not_mem_nil) gdJ3_checkIndex_8e157))
def rJ0_checkIndex_df160 (F : Nat) (l0I : Int32) (l1I : Int32) (S : wPS) (Φ : (Unit → wPS → Prop)) : Prop :=
  rJ3_checkIndex_8e157 F l0I l1I S fun v1 S2 => Φ () S2
set_option maxHeartbeats 4000000 in
set_option maxRecDepth 100000 in
theorem tJ0_checkIndex_df160 {l : Launch} {g : wkG} {F : Nat}  {S : wPS} {l0I : Int32} {l1I : Int32} {Φ : (Unit → wPS → Prop)} (hstr : wkStr g) (hW : wkWF S)  (h : rJ0_checkIndex_df160 F l0I l1I S Φ) : wkMet l g yJ0_checkIndex_df160 wvJ0_checkIndex_df160 1 0 0 [.int l0I, .int l1I] S (fun v' S'' => ∃ v : Unit, v' = none ∧ Φ v S'' ∧ wkWF S'' ∧ wkExt S S'') := by
  refine wkMet_of (ret := none) (by decide) rfl (Nat.le_of_ble_eq_true rfl) (fun X hg C hR E => ?_)
  subst hg
  have hE : wkExt S S := wkExt.rf
  have hd : 1 ≤ 1 := Nat.le_refl _
  show wkGo l X 2 0 0 0 S [some (.int l0I), some (.int l1I)] []
  unfold rJ0_checkIndex_df160 at h
  refine wk_iload_n C dJ0_checkIndex_df160_0 rfl rfl ?_
  refine wk_iload_n C dJ0_checkIndex_df160_1 rfl rfl ?_
  refine wk_ssio C hstr (List.mem_of_getElem? (i := 1) rfl) dJ0_checkIndex_df160_2 ?_
  rcases wkFm_or (wkXg X) with ef | ef <;> rw [ef]
  · refine wk_callW C hR (As := [.int l0I, .int l1I, .null]) (cnt := 3) (tJ3_checkIndex_8e157_n (l := l) hW h) rfl (wkGoodW (List.mem_of_getElem? (i := 2) rfl) (List.mem_of_getElem? (i := 3) rfl) (List.mem_of_getElem? (i := 4) rfl) hbJ0_checkIndex_df160_J3_checkIndex_8e157 gdJ3_checkIndex_8e157) (Nat.le_trans (by decide : 0 + 1 ≤ 1) hd) (by decide) ⟨by decide, by decide, by decide +kernel⟩ rfl rfl (Nat.le_of_ble_eq_true rfl) (Nat.le_refl 0) (Nat.le_refl 0) dJ0_checkIndex_df160_5 (fun v' S2 hp => ?_)
    obtain ⟨v1, rfl, h, hWS2, hXS2⟩ := hp
    refine wk_pop C dJ0_checkIndex_df160_8 rfl ?_
    exact E _ _ _ _ _ (Nat.le_refl 0) (Nat.le_refl 0) dJ0_checkIndex_df160_9 ⟨(), rfl, h, hWS2, (wkExt.tr hE hXS2)⟩
  · refine wk_callW C hR (As := [.int l0I, .int l1I, .ref ((wkXg X).1 7)]) (cnt := 3) (tJ3_checkIndex_8e157 (l := l) hW rfl h) rfl (wkGoodW (List.mem_of_getElem? (i := 2) rfl) (List.mem_of_getElem? (i := 3) rfl) (List.mem_of_getElem? (i := 4) rfl) hbJ0_checkIndex_df160_J3_checkIndex_8e157 gdJ3_checkIndex_8e157) (Nat.le_trans (by decide : 0 + 1 ≤ 1) hd) (by decide) ⟨by decide, by decide, by decide +kernel⟩ rfl rfl (Nat.le_of_ble_eq_true rfl) (Nat.le_refl 0) (Nat.le_refl 0) dJ0_checkIndex_df160_5 (fun v' S2 hp => ?_)
    obtain ⟨v1, rfl, h, hWS2, hXS2⟩ := hp
    refine wk_pop C dJ0_checkIndex_df160_8 rfl ?_
    exact E _ _ _ _ _ (Nat.le_refl 0) (Nat.le_refl 0) dJ0_checkIndex_df160_9 ⟨(), rfl, h, hWS2, (wkExt.tr hE hXS2)⟩
def wvJ1_charAt_3b067 : List Cond := .code yJ1_charAt_3b067 cJ1_charAt_3b067 2 (some .char) :: (([.methodLink RJ1 9 yJ0_checkIndex_df160, .static yJ0_checkIndex_df160, .initialized RJ0] : List Cond) ++ (([]) ++ (wvJ0_checkIndex_df160)))
theorem hbJ1_charAt_3b067_J0_checkIndex_df160 : ∀ w ∈ wvJ0_checkIndex_df160, w ∈ wvJ1_charAt_3b067 := fun w h => List.mem_cons_of_mem _ (List.mem_append_right _ (List.mem_append_right _ h))
theorem gdJ1_charAt_3b067 : ∀ w ∈ wvJ1_charAt_3b067, wkGd w := wkGdC rfl (wkGdA (wkGdL (by decide +kernel)) (wkGdA (fun _ h => absurd h List.not_mem_nil) gdJ0_checkIndex_df160))
def rJ1_charAt_3b067 (F : Nat) (l1I : Int32) (S : wPS) (Φ : (Int32 → wPS → Prop)) : Prop :=
  rJ0_checkIndex_df160 F l1I (12 : Int32) S fun v1 S2 => ¬ (l1I < 0 ∨ 12 ≤ (l1I).toNatClampNeg) ∧ ((((Int32.toUInt32 ((wkKd (l1I).toNatClampNeg) &&& (255 : Int32))) % 65536).toInt32 : Int32).toUInt32 % 65536).toInt32 = ((Int32.toUInt32 ((wkKd (l1I).toNatClampNeg) &&& (255 : Int32))) % 65536).toInt32 ∧ Φ ((Int32.toUInt32 ((wkKd (l1I).toNatClampNeg) &&& (255 : Int32))) % 65536).toInt32 S2
set_option maxHeartbeats 4000000 in
set_option maxRecDepth 100000 in
theorem tJ1_charAt_3b067 {l : Launch} {g : wkG} {F : Nat}  {S : wPS} {l0A : Nat} {l1I : Int32} {Φ : (Int32 → wPS → Prop)} (hstr : wkStr g) (hW : wkWF S) (hl0A : l0A = g.1 6) (h : rJ1_charAt_3b067 F l1I S Φ) : wkMet l g yJ1_charAt_3b067 wvJ1_charAt_3b067 2 0 0 [.ref l0A, .int l1I] S (fun v' S'' => ∃ v : Int32, v' = some (.int v) ∧ Φ v S'' ∧ wkWF S'' ∧ wkExt S S'') := by
  refine wkMet_of (ret := (some .char)) (by decide) rfl (Nat.le_of_ble_eq_true rfl) (fun X hg C hR E => ?_)
  subst hg
  have hE : wkExt S S := wkExt.rf
  have hd : 2 ≤ 2 := Nat.le_refl _
  show wkGo l X 2 0 0 0 S [some (.ref l0A), some (.int l1I)] []
  unfold rJ1_charAt_3b067 at h
  refine wk_iload_n C dJ1_charAt_3b067_0 rfl rfl ?_
  refine wk_aload_n C dJ1_charAt_3b067_1 rfl rfl ?_
  refine wk_slen C hstr hl0A dJ1_charAt_3b067_2 ?_
  refine wk_callW C hR (As := [.int l1I, .int (12 : Int32)]) (cnt := 2) (tJ0_checkIndex_df160 (l := l) hstr hW  h) rfl (wkGoodW (List.mem_of_getElem? (i := 1) rfl) (List.mem_of_getElem? (i := 2) rfl) (List.mem_of_getElem? (i := 3) rfl) hbJ1_charAt_3b067_J0_checkIndex_df160 gdJ0_checkIndex_df160) (Nat.le_trans (by decide : 1 + 1 ≤ 2) hd) (by decide) ⟨by decide, by decide, by decide +kernel⟩ rfl rfl (Nat.le_of_ble_eq_true rfl) (Nat.le_refl 0) (Nat.le_refl 0) dJ1_charAt_3b067_3 (fun v' S2 hp => ?_)
  obtain ⟨v1, rfl, h, hWS2, hXS2⟩ := hp
  refine wk_aload_n C dJ1_charAt_3b067_6 rfl rfl ?_
  refine wk_iload_n C dJ1_charAt_3b067_7 rfl rfl ?_
  obtain ⟨i6, h⟩ := h
  refine wk_sbal C hstr hl0A i6 rfl dJ1_charAt_3b067_8 ?_
  refine wk_sipush C (v := 255) dJ1_charAt_3b067_9 (by decide) ?_
  refine wk_iand C dJ1_charAt_3b067_12 rfl ?_
  refine wk_i2c C dJ1_charAt_3b067_13 rfl ?_
  obtain ⟨b7, h⟩ := h
  exact E _ _ _ _ _ _ (Nat.le_refl 0) (Nat.le_refl 0) dJ1_charAt_3b067_14 (wkNarC b7) ⟨((Int32.toUInt32 ((wkKd (l1I).toNatClampNeg) &&& (255 : Int32))) % 65536).toInt32, rfl, h, hWS2, (wkExt.tr hE hXS2)⟩
def wvJ1_indexOf_4cfef : List Cond := .code yJ1_indexOf_4cfef cJ1_indexOf_4cfef 4 (some .int) :: (([.methodLink RJ1 88 yJ1_canEncode_9a6ad, .static yJ1_canEncode_9a6ad, .initialized RJ1, .methodLink RJ1 92 Lib.Math.max.name, .static Lib.Math.max.name, .initialized "java/lang/Math", .code Lib.Math.max.name Lib.Math.max.code 2 (some .int), .methodLink RJ1 38 Lib.Math.min.name, .static Lib.Math.min.name, .code Lib.Math.min.name Lib.Math.min.code 2 (some .int), .methodLink RJ1 95 yJ1_indexOfChar_4cfef, .static yJ1_indexOfChar_4cfef] : List Cond) ++ (([]) ++ (wvJ1_canEncode_9a6ad ++ (wvJ1_indexOfChar_4cfef))))
theorem hbJ1_indexOf_4cfef_J1_canEncode_9a6ad : ∀ w ∈ wvJ1_canEncode_9a6ad, w ∈ wvJ1_indexOf_4cfef := fun w h => List.mem_cons_of_mem _ (List.mem_append_right _ (List.mem_append_right _ (List.mem_append_left _ h)))
theorem hbJ1_indexOf_4cfef_J1_indexOfChar_4cfef : ∀ w ∈ wvJ1_indexOfChar_4cfef, w ∈ wvJ1_indexOf_4cfef := fun w h => List.mem_cons_of_mem _ (List.mem_append_right _ (List.mem_append_right _ (List.mem_append_right _ h)))
theorem gdJ1_indexOf_4cfef : ∀ w ∈ wvJ1_indexOf_4cfef, wkGd w := wkGdC rfl (wkGdA (wkGdL (by decide +kernel)) (wkGdA (fun _ h => absurd h List.not_mem_nil) (wkGdA gdJ1_canEncode_9a6ad gdJ1_indexOfChar_4cfef)))
def rJ1_indexOf_4cfef (F : Nat) (l1I : Int32) (l2I : Int32) (l3I : Int32) (S : wPS) (Φ : (Int32 → wPS → Prop)) : Prop :=
  rJ1_canEncode_9a6ad F l1I S fun v1 S2 => if v1 = 0 then (Φ (-1 : Int32) S2) else (wkLt ((if l2I < (0 : Int32) then (0 : Int32) else l2I)) fun x7 => wkLt ((if (12 : Int32) < l3I then (12 : Int32) else l3I)) fun x8 => if x7 < x8 then (rJ1_indexOfChar_4cfef F l1I x7 x8 S2 fun v10 S11 => Φ v10 S11) else (Φ (-1 : Int32) S2))
set_option maxHeartbeats 4000000 in
set_option maxRecDepth 100000 in
theorem tJ1_indexOf_4cfef {l : Launch} {g : wkG} {F : Nat}  {S : wPS} {l0A : Nat} {l1I : Int32} {l2I : Int32} {l3I : Int32} {Φ : (Int32 → wPS → Prop)} (hstr : wkStr g) (hW : wkWF S) (hl0A : l0A = g.1 6) (h : rJ1_indexOf_4cfef F l1I l2I l3I S Φ) : wkMet l g yJ1_indexOf_4cfef wvJ1_indexOf_4cfef 1 0 0 [.ref l0A, .int l1I, .int l2I, .int l3I] S (fun v' S'' => ∃ v : Int32, v' = some (.int v) ∧ Φ v S'' ∧ wkWF S'' ∧ wkExt S S'') := by
  refine wkMet_of (ret := (some .int)) (by decide) rfl (Nat.le_of_ble_eq_true rfl) (fun X hg C hR E => ?_)
  subst hg
  have hE : wkExt S S := wkExt.rf
  have hd : 1 ≤ 1 := Nat.le_refl _
  show wkGo l X 4 0 0 0 S [some (.ref l0A), some (.int l1I), some (.int l2I), some (.int l3I)] []
  unfold rJ1_indexOf_4cfef at h
  refine wk_iload_n C dJ1_indexOf_4cfef_0 rfl rfl ?_
  refine wk_callW C hR (As := [.int l1I]) (cnt := 1) (tJ1_canEncode_9a6ad (l := l) hW  h) rfl (wkGoodW (List.mem_of_getElem? (i := 1) rfl) (List.mem_of_getElem? (i := 2) rfl) (List.mem_of_getElem? (i := 3) rfl) hbJ1_indexOf_4cfef_J1_canEncode_9a6ad gdJ1_canEncode_9a6ad) (Nat.le_trans (by decide : 0 + 1 ≤ 1) hd) (by decide) ⟨by decide, by decide, by decide +kernel⟩ rfl rfl (Nat.le_of_ble_eq_true rfl) (Nat.le_refl 0) (Nat.le_refl 0) dJ1_indexOf_4cfef_1 (fun v' S2 hp => ?_)
  obtain ⟨v1, rfl, h, hWS2, hXS2⟩ := hp
  refine wk_if_ne C (tgt := 9) dJ1_indexOf_4cfef_4 (by decide) (fun c6 => ?_) (fun c6 => ?_)
  · rw [if_neg c6] at h
    refine wk_iload_n C dJ1_indexOf_4cfef_9 rfl rfl ?_
    refine wk_iconst C (v := 0) dJ1_indexOf_4cfef_10 (by decide) ?_
    refine wk_mmax C hR (List.mem_of_getElem? (i := 4) rfl) (List.mem_of_getElem? (i := 5) rfl) (List.mem_of_getElem? (i := 6) rfl) (List.mem_of_getElem? (i := 7) rfl) (Nat.le_trans (by decide) hd) (Nat.le_refl 0) (Nat.le_refl 0) (Nat.le_of_ble_eq_true rfl) rfl dJ1_indexOf_4cfef_11 ?_
    obtain ⟨x7, ex7, h⟩ := wkLt_some h
    refine wk_topi ex7 ?_
    refine wk_istore_n C (lv' := [some (.ref l0A), some (.int l1I), some (.int x7), some (.int l3I)]) dJ1_indexOf_4cfef_14 rfl (by decide) rfl ?_
    refine wk_iload_n C dJ1_indexOf_4cfef_15 rfl rfl ?_
    refine wk_aload_n C dJ1_indexOf_4cfef_16 rfl rfl ?_
    refine wk_slen C hstr hl0A dJ1_indexOf_4cfef_17 ?_
    refine wk_mmin C hR (List.mem_of_getElem? (i := 8) rfl) (List.mem_of_getElem? (i := 9) rfl) (List.mem_of_getElem? (i := 6) rfl) (List.mem_of_getElem? (i := 10) rfl) (Nat.le_trans (by decide) hd) (Nat.le_refl 0) (Nat.le_refl 0) (Nat.le_of_ble_eq_true rfl) rfl dJ1_indexOf_4cfef_18 ?_
    obtain ⟨x8, ex8, h⟩ := wkLt_some h
    refine wk_topi ex8 ?_
    refine wk_istore_n C (lv' := [some (.ref l0A), some (.int l1I), some (.int x7), some (.int x8)]) dJ1_indexOf_4cfef_21 rfl (by decide) rfl ?_
    refine wk_iload_n C dJ1_indexOf_4cfef_22 rfl rfl ?_
    refine wk_iload_n C dJ1_indexOf_4cfef_23 rfl rfl ?_
    refine wk_icmp_lt C (tgt := 29) dJ1_indexOf_4cfef_24 (by decide) (fun c9 => ?_) (fun c9 => ?_)
    · rw [if_pos c9] at h
      refine wk_aload_n C dJ1_indexOf_4cfef_29 rfl rfl ?_
      refine wk_iload_n C dJ1_indexOf_4cfef_30 rfl rfl ?_
      refine wk_iload_n C dJ1_indexOf_4cfef_31 rfl rfl ?_
      refine wk_iload_n C dJ1_indexOf_4cfef_32 rfl rfl ?_
      refine wk_callW C hR (As := [.ref l0A, .int l1I, .int x7, .int x8]) (cnt := 4) (tJ1_indexOfChar_4cfef (l := l) hstr hWS2 hl0A h) rfl (wkGoodW (List.mem_of_getElem? (i := 11) rfl) (List.mem_of_getElem? (i := 12) rfl) (List.mem_of_getElem? (i := 3) rfl) hbJ1_indexOf_4cfef_J1_indexOfChar_4cfef gdJ1_indexOfChar_4cfef) (Nat.le_trans (by decide : 0 + 1 ≤ 1) hd) (by decide) ⟨by decide, by decide, by decide +kernel⟩ rfl rfl (Nat.le_of_ble_eq_true rfl) (Nat.le_refl 0) (Nat.le_refl 0) dJ1_indexOf_4cfef_33 (fun v' S11 hp => ?_)
      obtain ⟨v10, rfl, h, hWS11, hXS11⟩ := hp
      exact E _ _ _ _ _ _ (Nat.le_refl 0) (Nat.le_refl 0) dJ1_indexOf_4cfef_36 ⟨v10, rfl, h, hWS11, (wkExt.tr (wkExt.tr hE hXS2) hXS11)⟩
    · rw [if_neg c9] at h
      refine wk_iconst C (v := (-1)) dJ1_indexOf_4cfef_27 (by decide) ?_
      exact E _ _ _ _ _ _ (Nat.le_refl 0) (Nat.le_refl 0) dJ1_indexOf_4cfef_28 ⟨(-1 : Int32), rfl, h, hWS2, (wkExt.tr hE hXS2)⟩
  · rw [if_pos c6] at h
    refine wk_iconst C (v := (-1)) dJ1_indexOf_4cfef_7 (by decide) ?_
    exact E _ _ _ _ _ _ (Nat.le_refl 0) (Nat.le_refl 0) dJ1_indexOf_4cfef_8 ⟨(-1 : Int32), rfl, h, hWS2, (wkExt.tr hE hXS2)⟩
def wvX1_writeTruths : List Cond := .code yX1_writeTruths cX1_writeTruths 4 none :: (([.static yX11_has, .initialized RX11, .methodLink RX1 67 yX9_add, .instanceMethod yX9_add, .selects RX9 yX9_add yX9_add, .initialized RX9] : List Cond) ++ (([]) ++ (wvX11_has ++ (wvX9_add))))
theorem hbX1_writeTruths_X11_has : ∀ w ∈ wvX11_has, w ∈ wvX1_writeTruths := fun w h => List.mem_cons_of_mem _ (List.mem_append_right _ (List.mem_append_right _ (List.mem_append_left _ h)))
theorem hbX1_writeTruths_X9_add : ∀ w ∈ wvX9_add, w ∈ wvX1_writeTruths := fun w h => List.mem_cons_of_mem _ (List.mem_append_right _ (List.mem_append_right _ (List.mem_append_right _ h)))
theorem gdX1_writeTruths : ∀ w ∈ wvX1_writeTruths, wkGd w := wkGdC rfl (wkGdA (wkGdL (by decide +kernel)) (wkGdA (fun _ h => absurd h List.not_mem_nil) (wkGdA gdX11_has gdX9_add)))
def rX1_writeTruths_b0 (F : Nat) (k n : Nat) (rec : Nat → Nat → Nat → Int32 → Int32 → Nat → Int32 → wPS → (Unit → wPS → Prop) → Prop) (c s : Nat) (l0I : Int32) (l1I : Int32) (l2A : Nat) (l3I : Int32) (S : wPS) (Φ : (Unit → wPS → Prop)) : Prop :=
  if l1I ≤ l3I then (Φ () S) else (rX11_has F l0I ((l1I - (1 : Int32)) - l3I) S fun v2 S3 => if v2 = 0 then (∃ k11 n12 : Nat, c + k11 ≤ k ∧ s + n12 ≤ n ∧ rX9_add F k11 n12 l2A (0 : Int32) S3 fun v8 S9 => wkLt (l3I + (1 : Int32)) fun x13 => rec 0 (c + k11) (s + n12) l0I l1I l2A x13 S9 Φ) else (∃ k17 n18 : Nat, c + k17 ≤ k ∧ s + n18 ≤ n ∧ rX9_add F k17 n18 l2A (1 : Int32) S3 fun v14 S15 => wkLt (l3I + (1 : Int32)) fun x19 => rec 0 (c + k17) (s + n18) l0I l1I l2A x19 S15 Φ))
def rX1_writeTruths_go (F : Nat) (k n : Nat) : Nat → Nat → Nat → Nat → Int32 → Int32 → Nat → Int32 → wPS → (Unit → wPS → Prop) → Prop
  | 0, _, _, _, _, _, _, _, _, _ => False
  | k' + 1, lab, c, s, l0I, l1I, l2A, l3I, S, Φ => if lab = 0 then rX1_writeTruths_b0 F k n (rX1_writeTruths_go F k n k') c s l0I l1I l2A l3I S Φ else False
def rX1_writeTruths_s (F : Nat) (k n : Nat) (rec : Nat → Nat → Nat → Int32 → Int32 → Nat → Int32 → wPS → (Unit → wPS → Prop) → Prop) (l0I : Int32) (l1I : Int32) (l2A : Nat) (S : wPS) (Φ : (Unit → wPS → Prop)) : Prop :=
  rec 0 0 0 l0I l1I l2A (0 : Int32) S Φ
def rX1_writeTruths (F : Nat) (k n : Nat) (l0I : Int32) (l1I : Int32) (l2A : Nat) (S : wPS) (Φ : (Unit → wPS → Prop)) : Prop := rX1_writeTruths_s F k n (rX1_writeTruths_go F k n F) l0I l1I l2A S Φ
set_option maxHeartbeats 4000000 in
set_option maxRecDepth 100000 in
theorem tX1_writeTruths_go {k n : Nat} {l : Launch} {X : wkX} {d F : Nat} {S0 : wPS} {Φ : (Unit → wPS → Prop)} (C : wkC X cX1_writeTruths RX1 4 wvX1_writeTruths) (hR : wkRm X d k n) (hd : 3 ≤ d) (E : wkEnd l X cX1_writeTruths 4 none k n (fun v' S'' => ∃ v : Unit, v' = none ∧ Φ v S'' ∧ wkWF S'' ∧ wkExt S0 S'')) : ∀ k' : Nat, (∀ (c s : Nat), c ≤ k → s ≤ n → ∀ (l0I : Int32) (l1I : Int32) (l2A : Nat) (l3I : Int32) (S : wPS), wkWF S → wkExt S0 S → wkIs S l2A 9 → rX1_writeTruths_go F k n k' 0 c s l0I l1I l2A l3I S Φ → wkGo l X 4 c s 2 S [some (.int l0I), some (.int l1I), some (.ref l2A), some (.int l3I)] []) := by
  intro k'
  induction k' with
  | zero => exact fun c s hc hs l0I l1I l2A l3I S hW hE hl2A h => h.elim
  | succ k' ih =>
    · intro c s hc hs l0I l1I l2A l3I S hW hE hl2A h
      have h : rX1_writeTruths_b0 F k n (rX1_writeTruths_go F k n k') c s l0I l1I l2A l3I S Φ := by
        rw [rX1_writeTruths_go, if_pos (rfl : (0 : Nat) = 0)] at h
        exact h
      unfold rX1_writeTruths_b0 at h
      refine wk_iload_n C dX1_writeTruths_2 rfl rfl ?_
      refine wk_iload_n C dX1_writeTruths_3 rfl rfl ?_
      refine wk_icmp_ge C (tgt := 34) dX1_writeTruths_4 (by decide) (fun c1 => ?_) (fun c1 => ?_)
      · rw [if_pos c1] at h
        exact E _ _ _ _ _ hc hs dX1_writeTruths_34 ⟨(), rfl, h, hW, hE⟩
      · rw [if_neg c1] at h
        refine wk_aload_n C dX1_writeTruths_7 rfl rfl ?_
        refine wk_iload_n C dX1_writeTruths_8 rfl rfl ?_
        refine wk_iload_n C dX1_writeTruths_9 rfl rfl ?_
        refine wk_iconst C (v := 1) dX1_writeTruths_10 (by decide) ?_
        refine wk_isub C dX1_writeTruths_11 rfl ?_
        refine wk_iload_n C dX1_writeTruths_12 rfl rfl ?_
        refine wk_isub C dX1_writeTruths_13 rfl ?_
        refine wk_callN C hR (y := yX11_has) (host := "Witnessworks") (As := [.int l0I, .int ((l1I - (1 : Int32)) - l3I)]) (cnt := 2) (tX11_has (l := l) hW  h) rfl (fun w h => ⟨hbX1_writeTruths_X11_has w h, gdX11_has w h⟩) (by decide +kernel) (List.mem_of_getElem? (i := 1) rfl) (List.mem_of_getElem? (i := 2) rfl) (Nat.le_trans (by decide : 0 + 1 ≤ 3) hd) (by decide) ⟨by decide, by decide, by decide +kernel⟩ rfl rfl (Nat.le_of_ble_eq_true rfl) hc hs dX1_writeTruths_14 (fun v' S3 hp => ?_)
        obtain ⟨v2, rfl, h, hWS3, hXS3⟩ := hp
        refine wk_if_eq C (tgt := 24) dX1_writeTruths_17 (by decide) (fun c7 => ?_) (fun c7 => ?_)
        · rw [if_pos c7] at h
          refine wk_iconst C (v := 0) dX1_writeTruths_24 (by decide) ?_
          obtain ⟨k11, n12, hk11, hn12, h⟩ := h
          refine wk_callV C hR (As := [.int (0 : Int32)]) (cnt := 1) (tX9_add (l := l) hWS3 (hXS3 _ _ hl2A) h) rfl (wkGoodV (List.mem_of_getElem? (i := 3) rfl) (List.mem_of_getElem? (i := 4) rfl) (List.mem_of_getElem? (i := 5) rfl) (List.mem_of_getElem? (i := 6) rfl) hbX1_writeTruths_X9_add gdX9_add) (Nat.le_trans (by decide : 2 + 1 ≤ 3) hd) (by decide) (hXS3 _ _ hl2A).1 (fun cy => wAt_9 cy _ (hXS3 _ _ hl2A).2) rfl ⟨by decide, by decide, by decide +kernel⟩ rfl rfl (Nat.le_of_ble_eq_true rfl) hk11 hn12 dX1_writeTruths_25 (fun v' S9 hp => ?_)
          obtain ⟨v8, rfl, h, hWS9, hXS9⟩ := hp
          obtain ⟨x13, ex13, h⟩ := wkLt_some h
          refine wk_iinc C (lv' := [some (.int l0I), some (.int l1I), some (.ref l2A), some (.int x13)]) dX1_writeTruths_28 rfl (by rw [ex13]; rfl) (by decide) rfl ?_
          refine wk_goto C (tgt := 2) dX1_writeTruths_31 (by decide) ?_
          exact wk_forget (lv' := [some (.int l0I), some (.int l1I), some (.ref l2A), some (.int x13)]) (wkLs.le ⟨rfl, rfl, rfl, rfl, trivial⟩) (ih _ _ hk11 hn12 _ _ _ _ _ hWS9 (wkExt.tr (wkExt.tr hE hXS3) hXS9) (hXS9 _ _ (hXS3 _ _ hl2A)) h)
        · rw [if_neg c7] at h
          refine wk_iconst C (v := 1) dX1_writeTruths_20 (by decide) ?_
          refine wk_goto C (tgt := 25) dX1_writeTruths_21 (by decide) ?_
          obtain ⟨k17, n18, hk17, hn18, h⟩ := h
          refine wk_callV C hR (As := [.int (1 : Int32)]) (cnt := 1) (tX9_add (l := l) hWS3 (hXS3 _ _ hl2A) h) rfl (wkGoodV (List.mem_of_getElem? (i := 3) rfl) (List.mem_of_getElem? (i := 4) rfl) (List.mem_of_getElem? (i := 5) rfl) (List.mem_of_getElem? (i := 6) rfl) hbX1_writeTruths_X9_add gdX9_add) (Nat.le_trans (by decide : 2 + 1 ≤ 3) hd) (by decide) (hXS3 _ _ hl2A).1 (fun cy => wAt_9 cy _ (hXS3 _ _ hl2A).2) rfl ⟨by decide, by decide, by decide +kernel⟩ rfl rfl (Nat.le_of_ble_eq_true rfl) hk17 hn18 dX1_writeTruths_25 (fun v' S15 hp => ?_)
          obtain ⟨v14, rfl, h, hWS15, hXS15⟩ := hp
          obtain ⟨x19, ex19, h⟩ := wkLt_some h
          refine wk_iinc C (lv' := [some (.int l0I), some (.int l1I), some (.ref l2A), some (.int x19)]) dX1_writeTruths_28 rfl (by rw [ex19]; rfl) (by decide) rfl ?_
          refine wk_goto C (tgt := 2) dX1_writeTruths_31 (by decide) ?_
          exact wk_forget (lv' := [some (.int l0I), some (.int l1I), some (.ref l2A), some (.int x19)]) (wkLs.le ⟨rfl, rfl, rfl, rfl, trivial⟩) (ih _ _ hk17 hn18 _ _ _ _ _ hWS15 (wkExt.tr (wkExt.tr hE hXS3) hXS15) (hXS15 _ _ (hXS3 _ _ hl2A)) h)
set_option maxHeartbeats 4000000 in
set_option maxRecDepth 100000 in
theorem tX1_writeTruths {l : Launch} {g : wkG} {F : Nat} {k n : Nat}  {S : wPS} {l0I : Int32} {l1I : Int32} {l2A : Nat} {Φ : (Unit → wPS → Prop)} (hW : wkWF S) (hl2A : wkIs S l2A 9) (h : rX1_writeTruths F k n l0I l1I l2A S Φ) : wkMet l g yX1_writeTruths wvX1_writeTruths 3 k n [.int l0I, .int l1I, .ref l2A] S (fun v' S'' => ∃ v : Unit, v' = none ∧ Φ v S'' ∧ wkWF S'' ∧ wkExt S S'') := by
  refine wkMet_of (ret := none) (by decide) rfl (Nat.le_of_ble_eq_true rfl) (fun X hg C hR E => ?_)
  subst hg
  have hE : wkExt S S := wkExt.rf
  have hd : 3 ≤ 3 := Nat.le_refl _
  show wkGo l X 4 0 0 0 S [some (.int l0I), some (.int l1I), some (.ref l2A), none] []
  have ih := tX1_writeTruths_go (F := F) C hR hd E F
  have h : rX1_writeTruths_s F k n (rX1_writeTruths_go F k n F) l0I l1I l2A S Φ := h
  unfold rX1_writeTruths_s at h
  refine wk_iconst C (v := 0) dX1_writeTruths_0 (by decide) ?_
  refine wk_istore_n C (lv' := [some (.int l0I), some (.int l1I), some (.ref l2A), some (.int (0 : Int32))]) dX1_writeTruths_1 rfl (by decide) rfl ?_
  exact wk_forget (lv' := [some (.int l0I), some (.int l1I), some (.ref l2A), some (.int (0 : Int32))]) (wkLs.le ⟨rfl, rfl, rfl, rfl, trivial⟩) (ih _ _ (Nat.zero_le _) (Nat.zero_le _) _ _ _ _ _ hW hE hl2A h)
def wvX1_brokenItem : List Cond := .code yX1_brokenItem cX1_brokenItem 3 (some .int) :: (([.fieldLink RX1 73 "Witnessworks$Entry" "itemCount" "I", .methodLink RX1 76 yX1_isBroken, .instanceMethod yX1_isBroken, .selects RX1 yX1_isBroken yX1_isBroken, .initialized RX1] : List Cond) ++ ((wsX30) ++ (wvX1_isBroken)))
theorem huX1_brokenItem_3 : ∀ w ∈ u_ws RX3 TX3 17, w ∈ wvX1_brokenItem := fun w h => List.mem_cons_of_mem _ (List.mem_append_right _ (List.mem_append_left _ h))
theorem hbX1_brokenItem_X1_isBroken : ∀ w ∈ wvX1_isBroken, w ∈ wvX1_brokenItem := fun w h => List.mem_cons_of_mem _ (List.mem_append_right _ (List.mem_append_right _ h))
theorem gdX1_brokenItem : ∀ w ∈ wvX1_brokenItem, wkGd w := wkGdC rfl (wkGdA (wkGdL (by decide +kernel)) (wkGdA gdX3 gdX1_isBroken))
def rX1_brokenItem_b0 (F : Nat) (rec : Nat → Nat → Nat → Int32 → wPS → (Int32 → wPS → Prop) → Prop) (l0A : Nat) (l1A : Nat) (l2I : Int32) (S : wPS) (Φ : (Int32 → wPS → Prop)) : Prop :=
  if (gEntry_itemCount S l1A) ≤ l2I then (Φ (-1 : Int32) S) else (rX1_isBroken F l0A l1A l2I S fun v2 S3 => if v2 = 0 then (wkLt (l2I + (1 : Int32)) fun x8 => rec 0 l0A l1A x8 S3 Φ) else (Φ l2I S3))
def rX1_brokenItem_go (F : Nat) : Nat → Nat → Nat → Nat → Int32 → wPS → (Int32 → wPS → Prop) → Prop
  | 0, _, _, _, _, _, _ => False
  | k' + 1, lab, l0A, l1A, l2I, S, Φ => if lab = 0 then rX1_brokenItem_b0 F (rX1_brokenItem_go F k') l0A l1A l2I S Φ else False
def rX1_brokenItem_s (F : Nat) (rec : Nat → Nat → Nat → Int32 → wPS → (Int32 → wPS → Prop) → Prop) (l0A : Nat) (l1A : Nat) (S : wPS) (Φ : (Int32 → wPS → Prop)) : Prop :=
  rec 0 l0A l1A (0 : Int32) S Φ
def rX1_brokenItem (F : Nat) (l0A : Nat) (l1A : Nat) (S : wPS) (Φ : (Int32 → wPS → Prop)) : Prop := rX1_brokenItem_s F (rX1_brokenItem_go F F) l0A l1A S Φ
set_option maxHeartbeats 4000000 in
set_option maxRecDepth 100000 in
theorem tX1_brokenItem_go {l : Launch} {X : wkX} {d F : Nat} {S0 : wPS} {Φ : (Int32 → wPS → Prop)} (C : wkC X cX1_brokenItem RX1 3 wvX1_brokenItem) (hR : wkRm X d 0 0) (hd : 2 ≤ d) (E : wkEnd l X cX1_brokenItem 3 (some .int) 0 0 (fun v' S'' => ∃ v : Int32, v' = some (.int v) ∧ Φ v S'' ∧ wkWF S'' ∧ wkExt S0 S'')) : ∀ k' : Nat, (∀ (l0A : Nat) (l1A : Nat) (l2I : Int32) (S : wPS), wkWF S → wkExt S0 S → wkIs S l0A 1 → wkIs S l1A 3 → rX1_brokenItem_go F k' 0 l0A l1A l2I S Φ → wkGo l X 3 0 0 2 S [some (.ref l0A), some (.ref l1A), some (.int l2I)] []) := by
  intro k'
  induction k' with
  | zero => exact fun l0A l1A l2I S hW hE hl0A hl1A h => h.elim
  | succ k' ih =>
    · intro l0A l1A l2I S hW hE hl0A hl1A h
      have h : rX1_brokenItem_b0 F (rX1_brokenItem_go F k') l0A l1A l2I S Φ := by
        rw [rX1_brokenItem_go, if_pos (rfl : (0 : Nat) = 0)] at h
        exact h
      unfold rX1_brokenItem_b0 at h
      refine wk_iload_n C dX1_brokenItem_2 rfl rfl ?_
      refine wk_aload_n C dX1_brokenItem_3 rfl rfl ?_
      refine wk_get C (v := .int (gEntry_itemCount S l1A)) huX1_brokenItem_3 hl1A.1 (fun cy => wAt_3 cy _ hl1A.2) rfl 6 (by decide) (List.mem_of_getElem? (i := 1) rfl) rfl rfl dX1_brokenItem_4 ?_
      refine wk_icmp_ge C (tgt := 27) dX1_brokenItem_7 (by decide) (fun c1 => ?_) (fun c1 => ?_)
      · rw [if_pos c1] at h
        refine wk_iconst C (v := (-1)) dX1_brokenItem_27 (by decide) ?_
        exact E _ _ _ _ _ _ (Nat.le_refl 0) (Nat.le_refl 0) dX1_brokenItem_28 ⟨(-1 : Int32), rfl, h, hW, hE⟩
      · rw [if_neg c1] at h
        refine wk_aload_n C dX1_brokenItem_10 rfl rfl ?_
        refine wk_aload_n C dX1_brokenItem_11 rfl rfl ?_
        refine wk_iload_n C dX1_brokenItem_12 rfl rfl ?_
        refine wk_callV C hR (As := [.ref l1A, .int l2I]) (cnt := 2) (tX1_isBroken (l := l) hW hl0A hl1A h) rfl (wkGoodV (List.mem_of_getElem? (i := 2) rfl) (List.mem_of_getElem? (i := 3) rfl) (List.mem_of_getElem? (i := 4) rfl) (List.mem_of_getElem? (i := 5) rfl) hbX1_brokenItem_X1_isBroken gdX1_isBroken) (Nat.le_trans (by decide : 1 + 1 ≤ 2) hd) (by decide) hl0A.1 (fun cy => wAt_1 cy _ hl0A.2) rfl ⟨by decide, by decide, by decide +kernel⟩ rfl rfl (Nat.le_of_ble_eq_true rfl) (Nat.le_refl 0) (Nat.le_refl 0) dX1_brokenItem_13 (fun v' S3 hp => ?_)
        obtain ⟨v2, rfl, h, hWS3, hXS3⟩ := hp
        refine wk_if_eq C (tgt := 21) dX1_brokenItem_16 (by decide) (fun c7 => ?_) (fun c7 => ?_)
        · rw [if_pos c7] at h
          obtain ⟨x8, ex8, h⟩ := wkLt_some h
          refine wk_iinc C (lv' := [some (.ref l0A), some (.ref l1A), some (.int x8)]) dX1_brokenItem_21 rfl (by rw [ex8]; rfl) (by decide) rfl ?_
          refine wk_goto C (tgt := 2) dX1_brokenItem_24 (by decide) ?_
          exact wk_forget (lv' := [some (.ref l0A), some (.ref l1A), some (.int x8)]) (wkLs.le ⟨rfl, rfl, rfl, trivial⟩) (ih _ _ _ _ hWS3 (wkExt.tr hE hXS3) (hXS3 _ _ hl0A) (hXS3 _ _ hl1A) h)
        · rw [if_neg c7] at h
          refine wk_iload_n C dX1_brokenItem_19 rfl rfl ?_
          exact E _ _ _ _ _ _ (Nat.le_refl 0) (Nat.le_refl 0) dX1_brokenItem_20 ⟨l2I, rfl, h, hWS3, (wkExt.tr hE hXS3)⟩
set_option maxHeartbeats 4000000 in
set_option maxRecDepth 100000 in
theorem tX1_brokenItem {l : Launch} {g : wkG} {F : Nat}  {S : wPS} {l0A : Nat} {l1A : Nat} {Φ : (Int32 → wPS → Prop)} (hW : wkWF S) (hl0A : wkIs S l0A 1) (hl1A : wkIs S l1A 3) (h : rX1_brokenItem F l0A l1A S Φ) : wkMet l g yX1_brokenItem wvX1_brokenItem 2 0 0 [.ref l0A, .ref l1A] S (fun v' S'' => ∃ v : Int32, v' = some (.int v) ∧ Φ v S'' ∧ wkWF S'' ∧ wkExt S S'') := by
  refine wkMet_of (ret := (some .int)) (by decide) rfl (Nat.le_of_ble_eq_true rfl) (fun X hg C hR E => ?_)
  subst hg
  have hE : wkExt S S := wkExt.rf
  have hd : 2 ≤ 2 := Nat.le_refl _
  show wkGo l X 3 0 0 0 S [some (.ref l0A), some (.ref l1A), none] []
  have ih := tX1_brokenItem_go (F := F) C hR hd E F
  have h : rX1_brokenItem_s F (rX1_brokenItem_go F F) l0A l1A S Φ := h
  unfold rX1_brokenItem_s at h
  refine wk_iconst C (v := 0) dX1_brokenItem_0 (by decide) ?_
  refine wk_istore_n C (lv' := [some (.ref l0A), some (.ref l1A), some (.int (0 : Int32))]) dX1_brokenItem_1 rfl (by decide) rfl ?_
  exact wk_forget (lv' := [some (.ref l0A), some (.ref l1A), some (.int (0 : Int32))]) (wkLs.le ⟨rfl, rfl, rfl, trivial⟩) (ih _ _ _ _ hW hE hl0A hl1A h)
def wvX1_goThrough : List Cond := .code yX1_goThrough cX1_goThrough 5 none :: (([.fieldLink RX1 88 "Witnessworks$Clauses" "isAtEnd" "Z", .methodLink RX1 63 yX1_brokenItem, .instanceMethod yX1_brokenItem, .selects RX1 yX1_brokenItem yX1_brokenItem, .initialized RX1, .fieldLink RX1 47 "Witnessworks$Clauses" "ones" "I", .methodLink RX1 54 yJ6_bitCount_0f7a4, .static yJ6_bitCount_0f7a4, .initialized RJ6, .fieldLink RX1 60 "Witnessworks$Entry" "boundNow" "I", .fieldLink RX1 44 "Witnessworks$Clauses" "depth" "I", .methodLink RX1 67 yX9_add, .instanceMethod yX9_add, .selects RX9 yX9_add yX9_add, .initialized RX9, .methodLink RX1 105 yX1_derive, .instanceMethod yX1_derive, .selects RX1 yX1_derive yX1_derive, .methodLink RX1 108 yX1_goBack, .instanceMethod yX1_goBack, .selects RX1 yX1_goBack yX1_goBack, .methodLink RX1 101 yX1_codeOf, .static yX1_codeOf, .methodLink RX1 98 yX1_begin, .instanceMethod yX1_begin, .selects RX1 yX1_begin yX1_begin] : List Cond) ++ ((wsX10 ++ (wsX30)) ++ (wvX1_brokenItem ++ (wvJ6_bitCount_0f7a4 ++ (wvX9_add ++ (wvX1_derive ++ (wvX1_goBack ++ (wvX1_codeOf ++ (wvX1_begin)))))))))
theorem huX1_goThrough_1 : ∀ w ∈ u_ws RX1 TX1 7, w ∈ wvX1_goThrough := fun w h => List.mem_cons_of_mem _ (List.mem_append_right _ (List.mem_append_left _ (List.mem_append_left _ h)))
theorem huX1_goThrough_3 : ∀ w ∈ u_ws RX3 TX3 17, w ∈ wvX1_goThrough := fun w h => List.mem_cons_of_mem _ (List.mem_append_right _ (List.mem_append_left _ (List.mem_append_right _ h)))
theorem hbX1_goThrough_X1_brokenItem : ∀ w ∈ wvX1_brokenItem, w ∈ wvX1_goThrough := fun w h => List.mem_cons_of_mem _ (List.mem_append_right _ (List.mem_append_right _ (List.mem_append_left _ h)))
theorem hbX1_goThrough_J6_bitCount_0f7a4 : ∀ w ∈ wvJ6_bitCount_0f7a4, w ∈ wvX1_goThrough := fun w h => List.mem_cons_of_mem _ (List.mem_append_right _ (List.mem_append_right _ (List.mem_append_right _ (List.mem_append_left _ h))))
theorem hbX1_goThrough_X9_add : ∀ w ∈ wvX9_add, w ∈ wvX1_goThrough := fun w h => List.mem_cons_of_mem _ (List.mem_append_right _ (List.mem_append_right _ (List.mem_append_right _ (List.mem_append_right _ (List.mem_append_left _ h)))))
theorem hbX1_goThrough_X1_derive : ∀ w ∈ wvX1_derive, w ∈ wvX1_goThrough := fun w h => List.mem_cons_of_mem _ (List.mem_append_right _ (List.mem_append_right _ (List.mem_append_right _ (List.mem_append_right _ (List.mem_append_right _ (List.mem_append_left _ h))))))
theorem hbX1_goThrough_X1_goBack : ∀ w ∈ wvX1_goBack, w ∈ wvX1_goThrough := fun w h => List.mem_cons_of_mem _ (List.mem_append_right _ (List.mem_append_right _ (List.mem_append_right _ (List.mem_append_right _ (List.mem_append_right _ (List.mem_append_right _ (List.mem_append_left _ h)))))))
theorem hbX1_goThrough_X1_codeOf : ∀ w ∈ wvX1_codeOf, w ∈ wvX1_goThrough := fun w h => List.mem_cons_of_mem _ (List.mem_append_right _ (List.mem_append_right _ (List.mem_append_right _ (List.mem_append_right _ (List.mem_append_right _ (List.mem_append_right _ (List.mem_append_right _ (List.mem_append_left _ h))))))))
theorem hbX1_goThrough_X1_begin : ∀ w ∈ wvX1_begin, w ∈ wvX1_goThrough := fun w h => List.mem_cons_of_mem _ (List.mem_append_right _ (List.mem_append_right _ (List.mem_append_right _ (List.mem_append_right _ (List.mem_append_right _ (List.mem_append_right _ (List.mem_append_right _ (List.mem_append_right _ h))))))))
theorem gdX1_goThrough : ∀ w ∈ wvX1_goThrough, wkGd w := wkGdC rfl (wkGdA (wkGdL (by decide +kernel)) (wkGdA (wkGdA gdX1 gdX3) (wkGdA gdX1_brokenItem (wkGdA gdJ6_bitCount_0f7a4 (wkGdA gdX9_add (wkGdA gdX1_derive (wkGdA gdX1_goBack (wkGdA gdX1_codeOf gdX1_begin))))))))
def rX1_goThrough_b0 (F : Nat) (k n : Nat) (rec : Nat → Nat → Nat → Nat → Nat → Nat → Int32 → Int32 → wPS → (Unit → wPS → Prop) → Prop) (c s : Nat) (l0A : Nat) (l1A : Nat) (l2A : Nat) (l3I : Int32) (S : wPS) (Φ : (Unit → wPS → Prop)) : Prop :=
  if (128 : Int32) ≤ l3I then (Φ () S) else (if (gClauses_isAtEnd S l0A) = 0 then (rX1_brokenItem F l0A l1A S fun v3 S4 => if 0 ≤ v3 then (rec 1 c s l0A l1A l2A l3I v3 S4 Φ) else (rJ6_bitCount_0f7a4 F (gClauses_ones S4 l0A) S4 fun v9 S10 => if v9 ≤ (gEntry_boundNow S10 l1A) then (wkLt (wu_Clauses_depth S10 l0A ((gClauses_depth S10 l0A) + (1 : Int32))) fun S15 => wkLt (l3I + (1 : Int32)) fun x16 => rec 0 c s l0A l1A l2A x16 0 S15 Φ) else (rec 1 c s l0A l1A l2A l3I v3 S10 Φ))) else (Φ () S))
def rX1_goThrough_b1 (F : Nat) (k n : Nat) (rec : Nat → Nat → Nat → Nat → Nat → Nat → Int32 → Int32 → wPS → (Unit → wPS → Prop) → Prop) (c s : Nat) (l0A : Nat) (l1A : Nat) (l2A : Nat) (l3I : Int32) (l4I : Int32) (S : wPS) (Φ : (Unit → wPS → Prop)) : Prop :=
  ∃ k20 n21 : Nat, c + k20 ≤ k ∧ s + n21 ≤ n ∧ rX9_add F k20 n21 l2A l4I S fun v17 S18 => if l4I < 0 then (rX1_derive F l0A ((gClauses_ones S18 l0A) * (64 : Int32)) S18 fun v23 S24 => rX1_goBack F l0A S24 fun v28 S29 => wkLt (l3I + (1 : Int32)) fun x33 => rec 0 (c + k20) (s + n21) l0A l1A l2A x33 0 S29 Φ) else (rX1_codeOf F l1A l4I S18 fun v34 S35 => rX1_derive F l0A v34 S35 fun v39 S40 => rX1_goBack F l0A S40 fun v44 S45 => wkLt (l3I + (1 : Int32)) fun x49 => rec 0 (c + k20) (s + n21) l0A l1A l2A x49 0 S45 Φ)
def rX1_goThrough_go (F : Nat) (k n : Nat) : Nat → Nat → Nat → Nat → Nat → Nat → Nat → Int32 → Int32 → wPS → (Unit → wPS → Prop) → Prop
  | 0, _, _, _, _, _, _, _, _, _, _ => False
  | k' + 1, lab, c, s, l0A, l1A, l2A, l3I, l4I, S, Φ => if lab = 0 then rX1_goThrough_b0 F k n (rX1_goThrough_go F k n k') c s l0A l1A l2A l3I S Φ else if lab = 1 then rX1_goThrough_b1 F k n (rX1_goThrough_go F k n k') c s l0A l1A l2A l3I l4I S Φ else False
def rX1_goThrough_s (F : Nat) (k n : Nat) (rec : Nat → Nat → Nat → Nat → Nat → Nat → Int32 → Int32 → wPS → (Unit → wPS → Prop) → Prop) (l0A : Nat) (l1A : Nat) (l2A : Nat) (S : wPS) (Φ : (Unit → wPS → Prop)) : Prop :=
  rX1_begin F l0A S fun v50 S51 => rec 0 0 0 l0A l1A l2A (0 : Int32) 0 S51 Φ
def rX1_goThrough (F : Nat) (k n : Nat) (l0A : Nat) (l1A : Nat) (l2A : Nat) (S : wPS) (Φ : (Unit → wPS → Prop)) : Prop := rX1_goThrough_s F k n (rX1_goThrough_go F k n F) l0A l1A l2A S Φ
set_option maxHeartbeats 4000000 in
set_option maxRecDepth 100000 in
theorem tX1_goThrough_go {k n : Nat} {l : Launch} {X : wkX} {d F : Nat} {S0 : wPS} {Φ : (Unit → wPS → Prop)} (C : wkC X cX1_goThrough RX1 5 wvX1_goThrough) (hR : wkRm X d k n) (hd : 3 ≤ d) (E : wkEnd l X cX1_goThrough 5 none k n (fun v' S'' => ∃ v : Unit, v' = none ∧ Φ v S'' ∧ wkWF S'' ∧ wkExt S0 S'')) : ∀ k' : Nat, (∀ (c s : Nat), c ≤ k → s ≤ n → ∀ (l0A : Nat) (l1A : Nat) (l2A : Nat) (l3I : Int32) (S : wPS), wkWF S → wkExt S0 S → wkIs S l0A 1 → wkIs S l1A 3 → wkIs S l2A 9 → rX1_goThrough_go F k n k' 0 c s l0A l1A l2A l3I 0 S Φ → wkGo l X 5 c s 6 S [some (.ref l0A), some (.ref l1A), some (.ref l2A), some (.int l3I), none] []) ∧ (∀ (c s : Nat), c ≤ k → s ≤ n → ∀ (l0A : Nat) (l1A : Nat) (l2A : Nat) (l3I : Int32) (l4I : Int32) (S : wPS), wkWF S → wkExt S0 S → wkIs S l0A 1 → wkIs S l1A 3 → wkIs S l2A 9 → rX1_goThrough_go F k n k' 1 c s l0A l1A l2A l3I l4I S Φ → wkGo l X 5 c s 46 S [some (.ref l0A), some (.ref l1A), some (.ref l2A), some (.int l3I), some (.int l4I)] []) := by
  intro k'
  induction k' with
  | zero => exact ⟨fun c s hc hs l0A l1A l2A l3I S hW hE hl0A hl1A hl2A h => h.elim, fun c s hc hs l0A l1A l2A l3I l4I S hW hE hl0A hl1A hl2A h => h.elim⟩
  | succ k' ih =>
    refine ⟨?_, ?_⟩
    · intro c s hc hs l0A l1A l2A l3I S hW hE hl0A hl1A hl2A h
      have h : rX1_goThrough_b0 F k n (rX1_goThrough_go F k n k') c s l0A l1A l2A l3I S Φ := by
        rw [rX1_goThrough_go, if_pos (rfl : (0 : Nat) = 0)] at h
        exact h
      unfold rX1_goThrough_b0 at h
      refine wk_iload_n C dX1_goThrough_6 rfl rfl ?_
      refine wk_sipush C (v := 128) dX1_goThrough_7 (by decide) ?_
      refine wk_icmp_ge C (tgt := 104) dX1_goThrough_10 (by decide) (fun c1 => ?_) (fun c1 => ?_)
      · rw [if_pos c1] at h
        exact E _ _ _ _ _ hc hs dX1_goThrough_104 ⟨(), rfl, h, hW, hE⟩
      · rw [if_neg c1] at h
        refine wk_aload_n C dX1_goThrough_13 rfl rfl ?_
        refine wk_get C (v := .int (gClauses_isAtEnd S l0A)) huX1_goThrough_1 hl0A.1 (fun cy => wAt_1 cy _ hl0A.2) rfl 6 (by decide) (List.mem_of_getElem? (i := 1) rfl) rfl rfl dX1_goThrough_14 ?_
        refine wk_if_ne C (tgt := 104) dX1_goThrough_17 (by decide) (fun c2 => ?_) (fun c2 => ?_)
        · rw [if_neg c2] at h
          exact E _ _ _ _ _ hc hs dX1_goThrough_104 ⟨(), rfl, h, hW, hE⟩
        · rw [if_pos c2] at h
          refine wk_aload_n C dX1_goThrough_20 rfl rfl ?_
          refine wk_aload_n C dX1_goThrough_21 rfl rfl ?_
          refine wk_callV C hR (As := [.ref l1A]) (cnt := 1) (tX1_brokenItem (l := l) hW hl0A hl1A h) rfl (wkGoodV (List.mem_of_getElem? (i := 2) rfl) (List.mem_of_getElem? (i := 3) rfl) (List.mem_of_getElem? (i := 4) rfl) (List.mem_of_getElem? (i := 5) rfl) hbX1_goThrough_X1_brokenItem gdX1_brokenItem) (Nat.le_trans (by decide : 2 + 1 ≤ 3) hd) (by decide) hl0A.1 (fun cy => wAt_1 cy _ hl0A.2) rfl ⟨by decide, by decide, by decide +kernel⟩ rfl rfl (Nat.le_of_ble_eq_true rfl) hc hs dX1_goThrough_22 (fun v' S4 hp => ?_)
          obtain ⟨v3, rfl, h, hWS4, hXS4⟩ := hp
          refine wk_istore C (lv' := [some (.ref l0A), some (.ref l1A), some (.ref l2A), some (.int l3I), some (.int v3)]) dX1_goThrough_25 (by decide) rfl ?_
          refine wk_iload C dX1_goThrough_27 rfl ?_
          refine wk_if_ge C (tgt := 46) dX1_goThrough_29 (by decide) (fun c8 => ?_) (fun c8 => ?_)
          · rw [if_pos c8] at h
            exact wk_forget (lv' := [some (.ref l0A), some (.ref l1A), some (.ref l2A), some (.int l3I), some (.int v3)]) (wkLs.le ⟨rfl, rfl, rfl, rfl, rfl, trivial⟩) (ih.2 _ _ hc hs _ _ _ _ _ _ hWS4 (wkExt.tr hE hXS4) (hXS4 _ _ hl0A) (hXS4 _ _ hl1A) (hXS4 _ _ hl2A) h)
          · rw [if_neg c8] at h
            refine wk_aload_n C dX1_goThrough_32 rfl rfl ?_
            refine wk_get C (v := .int (gClauses_ones S4 l0A)) huX1_goThrough_1 (hXS4 _ _ hl0A).1 (fun cy => wAt_1 cy _ (hXS4 _ _ hl0A).2) rfl 5 (by decide) (List.mem_of_getElem? (i := 6) rfl) rfl rfl dX1_goThrough_33 ?_
            refine wk_callW C hR (As := [.int (gClauses_ones S4 l0A)]) (cnt := 1) (tJ6_bitCount_0f7a4 (l := l) hWS4  h) rfl (wkGoodW (List.mem_of_getElem? (i := 7) rfl) (List.mem_of_getElem? (i := 8) rfl) (List.mem_of_getElem? (i := 9) rfl) hbX1_goThrough_J6_bitCount_0f7a4 gdJ6_bitCount_0f7a4) (Nat.le_trans (by decide : 0 + 1 ≤ 3) hd) (by decide) ⟨by decide, by decide, by decide +kernel⟩ rfl rfl (Nat.le_of_ble_eq_true rfl) hc hs dX1_goThrough_36 (fun v' S10 hp => ?_)
            obtain ⟨v9, rfl, h, hWS10, hXS10⟩ := hp
            refine wk_aload_n C dX1_goThrough_39 rfl rfl ?_
            refine wk_get C (v := .int (gEntry_boundNow S10 l1A)) huX1_goThrough_3 (hXS10 _ _ (hXS4 _ _ hl1A)).1 (fun cy => wAt_3 cy _ (hXS10 _ _ (hXS4 _ _ hl1A)).2) rfl 8 (by decide) (List.mem_of_getElem? (i := 10) rfl) rfl rfl dX1_goThrough_40 ?_
            refine wk_icmp_le C (tgt := 88) dX1_goThrough_43 (by decide) (fun c14 => ?_) (fun c14 => ?_)
            · rw [if_pos c14] at h
              refine wk_aload_n C dX1_goThrough_88 rfl rfl ?_
              refine wk_dup C dX1_goThrough_89 rfl ?_
              refine wk_get C (v := .int (gClauses_depth S10 l0A)) huX1_goThrough_1 (hXS10 _ _ (hXS4 _ _ hl0A)).1 (fun cy => wAt_1 cy _ (hXS10 _ _ (hXS4 _ _ hl0A)).2) rfl 4 (by decide) (List.mem_of_getElem? (i := 11) rfl) rfl rfl dX1_goThrough_90 ?_
              refine wk_iconst C (v := 1) dX1_goThrough_93 (by decide) ?_
              refine wk_iadd C dX1_goThrough_94 rfl ?_
              obtain ⟨S15, eS15, h⟩ := wkLt_some h
              refine wk_put C (S' := S15) huX1_goThrough_1 (hXS10 _ _ (hXS4 _ _ hl0A)).1 (fun cy => wAt_1 cy _ (hXS10 _ _ (hXS4 _ _ hl0A)).2) rfl 4 (by decide) (List.mem_of_getElem? (i := 11) rfl) rfl tyX1_ok nmX1 rfl (ty := .int) rfl rfl rfl (by show 4 < 7; decide) (fun cy b => by rw [eS15]; exact wSt_1_4 cy _ (hXS10 _ _ (hXS4 _ _ hl0A)).2 _ b) (by rw [eS15]) dX1_goThrough_95 ?_
              have hWS15 : wkWF S15 := by rw [eS15]; exact hWS10
              have hXS15 : wkExt S10 S15 := by rw [eS15]; exact wkExt.rf
              obtain ⟨x16, ex16, h⟩ := wkLt_some h
              refine wk_iinc C (lv' := [some (.ref l0A), some (.ref l1A), some (.ref l2A), some (.int x16), some (.int v3)]) dX1_goThrough_98 rfl (by rw [ex16]; rfl) (by decide) rfl ?_
              refine wk_goto C (tgt := 6) dX1_goThrough_101 (by decide) ?_
              exact wk_forget (lv' := [some (.ref l0A), some (.ref l1A), some (.ref l2A), some (.int x16), none]) (wkLs.le ⟨rfl, rfl, rfl, rfl, trivial⟩) (ih.1 _ _ hc hs _ _ _ _ _ hWS15 (wkExt.tr (wkExt.tr (wkExt.tr hE hXS4) hXS10) hXS15) (hXS15 _ _ (hXS10 _ _ (hXS4 _ _ hl0A))) (hXS15 _ _ (hXS10 _ _ (hXS4 _ _ hl1A))) (hXS15 _ _ (hXS10 _ _ (hXS4 _ _ hl2A))) h)
            · rw [if_neg c14] at h
              exact wk_forget (lv' := [some (.ref l0A), some (.ref l1A), some (.ref l2A), some (.int l3I), some (.int v3)]) (wkLs.le ⟨rfl, rfl, rfl, rfl, rfl, trivial⟩) (ih.2 _ _ hc hs _ _ _ _ _ _ hWS10 (wkExt.tr (wkExt.tr hE hXS4) hXS10) (hXS10 _ _ (hXS4 _ _ hl0A)) (hXS10 _ _ (hXS4 _ _ hl1A)) (hXS10 _ _ (hXS4 _ _ hl2A)) h)
    · intro c s hc hs l0A l1A l2A l3I l4I S hW hE hl0A hl1A hl2A h
      have h : rX1_goThrough_b1 F k n (rX1_goThrough_go F k n k') c s l0A l1A l2A l3I l4I S Φ := by
        rw [rX1_goThrough_go, if_neg (show ¬ (1 : Nat) = 0 by decide), if_pos (rfl : (1 : Nat) = 1)] at h
        exact h
      unfold rX1_goThrough_b1 at h
      refine wk_aload_n C dX1_goThrough_46 rfl rfl ?_
      refine wk_ifnull C dX1_goThrough_47 ?_
      refine wk_aload_n C dX1_goThrough_50 rfl rfl ?_
      refine wk_iload C dX1_goThrough_51 rfl ?_
      obtain ⟨k20, n21, hk20, hn21, h⟩ := h
      refine wk_callV C hR (As := [.int l4I]) (cnt := 1) (tX9_add (l := l) hW hl2A h) rfl (wkGoodV (List.mem_of_getElem? (i := 12) rfl) (List.mem_of_getElem? (i := 13) rfl) (List.mem_of_getElem? (i := 14) rfl) (List.mem_of_getElem? (i := 15) rfl) hbX1_goThrough_X9_add gdX9_add) (Nat.le_trans (by decide : 2 + 1 ≤ 3) hd) (by decide) hl2A.1 (fun cy => wAt_9 cy _ hl2A.2) rfl ⟨by decide, by decide, by decide +kernel⟩ rfl rfl (Nat.le_of_ble_eq_true rfl) hk20 hn21 dX1_goThrough_53 (fun v' S18 hp => ?_)
      obtain ⟨v17, rfl, h, hWS18, hXS18⟩ := hp
      refine wk_aload_n C dX1_goThrough_56 rfl rfl ?_
      refine wk_iload C dX1_goThrough_57 rfl ?_
      refine wk_if_lt C (tgt := 71) dX1_goThrough_59 (by decide) (fun c22 => ?_) (fun c22 => ?_)
      · rw [if_pos c22] at h
        refine wk_aload_n C dX1_goThrough_71 rfl rfl ?_
        refine wk_get C (v := .int (gClauses_ones S18 l0A)) huX1_goThrough_1 (hXS18 _ _ hl0A).1 (fun cy => wAt_1 cy _ (hXS18 _ _ hl0A).2) rfl 5 (by decide) (List.mem_of_getElem? (i := 6) rfl) rfl rfl dX1_goThrough_72 ?_
        refine wk_bipush C (v := 64) dX1_goThrough_75 (by decide) ?_
        refine wk_imul C dX1_goThrough_77 rfl ?_
        refine wk_callV C hR (As := [.int ((gClauses_ones S18 l0A) * (64 : Int32))]) (cnt := 1) (tX1_derive (l := l) hWS18 (hXS18 _ _ hl0A) h) rfl (wkGoodV (List.mem_of_getElem? (i := 16) rfl) (List.mem_of_getElem? (i := 17) rfl) (List.mem_of_getElem? (i := 18) rfl) (List.mem_of_getElem? (i := 5) rfl) hbX1_goThrough_X1_derive gdX1_derive) (Nat.le_trans (by decide : 0 + 1 ≤ 3) hd) (by decide) (hXS18 _ _ hl0A).1 (fun cy => wAt_1 cy _ (hXS18 _ _ hl0A).2) rfl ⟨by decide, by decide, by decide +kernel⟩ rfl rfl (Nat.le_of_ble_eq_true rfl) hk20 hn21 dX1_goThrough_78 (fun v' S24 hp => ?_)
        obtain ⟨v23, rfl, h, hWS24, hXS24⟩ := hp
        refine wk_aload_n C dX1_goThrough_81 rfl rfl ?_
        refine wk_callV C hR (As := []) (cnt := 0) (tX1_goBack (l := l) hWS24 (hXS24 _ _ (hXS18 _ _ hl0A)) h) rfl (wkGoodV (List.mem_of_getElem? (i := 19) rfl) (List.mem_of_getElem? (i := 20) rfl) (List.mem_of_getElem? (i := 21) rfl) (List.mem_of_getElem? (i := 5) rfl) hbX1_goThrough_X1_goBack gdX1_goBack) (Nat.le_trans (by decide : 2 + 1 ≤ 3) hd) (by decide) (hXS24 _ _ (hXS18 _ _ hl0A)).1 (fun cy => wAt_1 cy _ (hXS24 _ _ (hXS18 _ _ hl0A)).2) rfl ⟨by decide, by decide, by decide +kernel⟩ rfl rfl (Nat.le_of_ble_eq_true rfl) hk20 hn21 dX1_goThrough_82 (fun v' S29 hp => ?_)
        obtain ⟨v28, rfl, h, hWS29, hXS29⟩ := hp
        refine wk_goto C (tgt := 98) dX1_goThrough_85 (by decide) ?_
        obtain ⟨x33, ex33, h⟩ := wkLt_some h
        refine wk_iinc C (lv' := [some (.ref l0A), some (.ref l1A), some (.ref l2A), some (.int x33), some (.int l4I)]) dX1_goThrough_98 rfl (by rw [ex33]; rfl) (by decide) rfl ?_
        refine wk_goto C (tgt := 6) dX1_goThrough_101 (by decide) ?_
        exact wk_forget (lv' := [some (.ref l0A), some (.ref l1A), some (.ref l2A), some (.int x33), none]) (wkLs.le ⟨rfl, rfl, rfl, rfl, trivial⟩) (ih.1 _ _ hk20 hn21 _ _ _ _ _ hWS29 (wkExt.tr (wkExt.tr (wkExt.tr hE hXS18) hXS24) hXS29) (hXS29 _ _ (hXS24 _ _ (hXS18 _ _ hl0A))) (hXS29 _ _ (hXS24 _ _ (hXS18 _ _ hl1A))) (hXS29 _ _ (hXS24 _ _ (hXS18 _ _ hl2A))) h)
      · rw [if_neg c22] at h
        refine wk_aload_n C dX1_goThrough_62 rfl rfl ?_
        refine wk_iload C dX1_goThrough_63 rfl ?_
        refine wk_callW C hR (As := [.ref l1A, .int l4I]) (cnt := 2) (tX1_codeOf (l := l) hWS18 (hXS18 _ _ hl1A) h) rfl (wkGoodW (List.mem_of_getElem? (i := 22) rfl) (List.mem_of_getElem? (i := 23) rfl) (List.mem_of_getElem? (i := 5) rfl) hbX1_goThrough_X1_codeOf gdX1_codeOf) (Nat.le_trans (by decide : 1 + 1 ≤ 3) hd) (by decide) ⟨by decide, by decide, by decide +kernel⟩ rfl rfl (Nat.le_of_ble_eq_true rfl) hk20 hn21 dX1_goThrough_65 (fun v' S35 hp => ?_)
        obtain ⟨v34, rfl, h, hWS35, hXS35⟩ := hp
        refine wk_goto C (tgt := 78) dX1_goThrough_68 (by decide) ?_
        refine wk_callV C hR (As := [.int v34]) (cnt := 1) (tX1_derive (l := l) hWS35 (hXS35 _ _ (hXS18 _ _ hl0A)) h) rfl (wkGoodV (List.mem_of_getElem? (i := 16) rfl) (List.mem_of_getElem? (i := 17) rfl) (List.mem_of_getElem? (i := 18) rfl) (List.mem_of_getElem? (i := 5) rfl) hbX1_goThrough_X1_derive gdX1_derive) (Nat.le_trans (by decide : 0 + 1 ≤ 3) hd) (by decide) (hXS35 _ _ (hXS18 _ _ hl0A)).1 (fun cy => wAt_1 cy _ (hXS35 _ _ (hXS18 _ _ hl0A)).2) rfl ⟨by decide, by decide, by decide +kernel⟩ rfl rfl (Nat.le_of_ble_eq_true rfl) hk20 hn21 dX1_goThrough_78 (fun v' S40 hp => ?_)
        obtain ⟨v39, rfl, h, hWS40, hXS40⟩ := hp
        refine wk_aload_n C dX1_goThrough_81 rfl rfl ?_
        refine wk_callV C hR (As := []) (cnt := 0) (tX1_goBack (l := l) hWS40 (hXS40 _ _ (hXS35 _ _ (hXS18 _ _ hl0A))) h) rfl (wkGoodV (List.mem_of_getElem? (i := 19) rfl) (List.mem_of_getElem? (i := 20) rfl) (List.mem_of_getElem? (i := 21) rfl) (List.mem_of_getElem? (i := 5) rfl) hbX1_goThrough_X1_goBack gdX1_goBack) (Nat.le_trans (by decide : 2 + 1 ≤ 3) hd) (by decide) (hXS40 _ _ (hXS35 _ _ (hXS18 _ _ hl0A))).1 (fun cy => wAt_1 cy _ (hXS40 _ _ (hXS35 _ _ (hXS18 _ _ hl0A))).2) rfl ⟨by decide, by decide, by decide +kernel⟩ rfl rfl (Nat.le_of_ble_eq_true rfl) hk20 hn21 dX1_goThrough_82 (fun v' S45 hp => ?_)
        obtain ⟨v44, rfl, h, hWS45, hXS45⟩ := hp
        refine wk_goto C (tgt := 98) dX1_goThrough_85 (by decide) ?_
        obtain ⟨x49, ex49, h⟩ := wkLt_some h
        refine wk_iinc C (lv' := [some (.ref l0A), some (.ref l1A), some (.ref l2A), some (.int x49), some (.int l4I)]) dX1_goThrough_98 rfl (by rw [ex49]; rfl) (by decide) rfl ?_
        refine wk_goto C (tgt := 6) dX1_goThrough_101 (by decide) ?_
        exact wk_forget (lv' := [some (.ref l0A), some (.ref l1A), some (.ref l2A), some (.int x49), none]) (wkLs.le ⟨rfl, rfl, rfl, rfl, trivial⟩) (ih.1 _ _ hk20 hn21 _ _ _ _ _ hWS45 (wkExt.tr (wkExt.tr (wkExt.tr (wkExt.tr hE hXS18) hXS35) hXS40) hXS45) (hXS45 _ _ (hXS40 _ _ (hXS35 _ _ (hXS18 _ _ hl0A)))) (hXS45 _ _ (hXS40 _ _ (hXS35 _ _ (hXS18 _ _ hl1A)))) (hXS45 _ _ (hXS40 _ _ (hXS35 _ _ (hXS18 _ _ hl2A)))) h)
set_option maxHeartbeats 4000000 in
set_option maxRecDepth 100000 in
theorem tX1_goThrough {l : Launch} {g : wkG} {F : Nat} {k n : Nat}  {S : wPS} {l0A : Nat} {l1A : Nat} {l2A : Nat} {Φ : (Unit → wPS → Prop)} (hW : wkWF S) (hl0A : wkIs S l0A 1) (hl1A : wkIs S l1A 3) (hl2A : wkIs S l2A 9) (h : rX1_goThrough F k n l0A l1A l2A S Φ) : wkMet l g yX1_goThrough wvX1_goThrough 3 k n [.ref l0A, .ref l1A, .ref l2A] S (fun v' S'' => ∃ v : Unit, v' = none ∧ Φ v S'' ∧ wkWF S'' ∧ wkExt S S'') := by
  refine wkMet_of (ret := none) (by decide) rfl (Nat.le_of_ble_eq_true rfl) (fun X hg C hR E => ?_)
  subst hg
  have hE : wkExt S S := wkExt.rf
  have hd : 3 ≤ 3 := Nat.le_refl _
  show wkGo l X 5 0 0 0 S [some (.ref l0A), some (.ref l1A), some (.ref l2A), none, none] []
  have ih := tX1_goThrough_go (F := F) C hR hd E F
  have h : rX1_goThrough_s F k n (rX1_goThrough_go F k n F) l0A l1A l2A S Φ := h
  unfold rX1_goThrough_s at h
  refine wk_aload_n C dX1_goThrough_0 rfl rfl ?_
  refine wk_callV C hR (As := []) (cnt := 0) (tX1_begin (l := l) hW hl0A h) rfl (wkGoodV (List.mem_of_getElem? (i := 24) rfl) (List.mem_of_getElem? (i := 25) rfl) (List.mem_of_getElem? (i := 26) rfl) (List.mem_of_getElem? (i := 5) rfl) hbX1_goThrough_X1_begin gdX1_begin) (Nat.le_trans (by decide : 0 + 1 ≤ 3) hd) (by decide) hl0A.1 (fun cy => wAt_1 cy _ hl0A.2) rfl ⟨by decide, by decide, by decide +kernel⟩ rfl rfl (Nat.le_of_ble_eq_true rfl) (Nat.zero_le _) (Nat.zero_le _) dX1_goThrough_1 (fun v' S51 hp => ?_)
  obtain ⟨v50, rfl, h, hWS51, hXS51⟩ := hp
  refine wk_iconst C (v := 0) dX1_goThrough_4 (by decide) ?_
  refine wk_istore_n C (lv' := [some (.ref l0A), some (.ref l1A), some (.ref l2A), some (.int (0 : Int32)), none]) dX1_goThrough_5 rfl (by decide) rfl ?_
  exact wk_forget (lv' := [some (.ref l0A), some (.ref l1A), some (.ref l2A), some (.int (0 : Int32)), none]) (wkLs.le ⟨rfl, rfl, rfl, rfl, trivial⟩) (ih.1 _ _ (Nat.zero_le _) (Nat.zero_le _) _ _ _ _ _ hWS51 (wkExt.tr hE hXS51) (hXS51 _ _ hl0A) (hXS51 _ _ hl1A) (hXS51 _ _ hl2A) h)
