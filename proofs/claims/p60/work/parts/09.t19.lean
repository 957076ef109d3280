def wvJ11_isValidCodePoint_9a6ad : List Cond := .code yJ11_isValidCodePoint_9a6ad cJ11_isValidCodePoint_9a6ad 2 (some .boolean) :: (([] : List Cond) ++ (([]) ++ ([])))
theorem gdJ11_isValidCodePoint_9a6ad : ∀ w ∈ wvJ11_isValidCodePoint_9a6ad, wkGd w := wkGdC rfl (wkGdA (wkGdL (by decide +kernel)) (wkGdA (fun _ h => absurd h List.not_mem_nil) (fun _ h => absurd h List.not_mem_nil)))
def rJ11_isValidCodePoint_9a6ad (F : Nat) (l0I : Int32) (S : wPS) (Φ : (Int32 → wPS → Prop)) : Prop :=
  wkLt (((l0I).toUInt32 >>> (((16 : Int32)).toUInt32 &&& Int32.toUInt32 31)).toInt32) fun x1 => if (17 : Int32) ≤ x1 then (Φ (0 : Int32) S) else (Φ (1 : Int32) S)
set_option maxHeartbeats 4000000 in
set_option maxRecDepth 100000 in
theorem tJ11_isValidCodePoint_9a6ad {l : Launch} {g : wkG} {F : Nat}  {S : wPS} {l0I : Int32} {Φ : (Int32 → wPS → Prop)} (hW : wkWF S)  (h : rJ11_isValidCodePoint_9a6ad F l0I S Φ) : wkMet l g yJ11_isValidCodePoint_9a6ad wvJ11_isValidCodePoint_9a6ad 0 0 0 [.int l0I] S (fun v' S'' => ∃ v : Int32, v' = some (.int v) ∧ Φ v S'' ∧ wkWF S'' ∧ wkExt S S'') := by
  refine wkMet_of (ret := (some .boolean)) (by decide) rfl (Nat.le_of_ble_eq_true rfl) (fun X hg C hR E => ?_)
  subst hg
  have hE : wkExt S S := wkExt.rf
  have hd : 0 ≤ 0 := Nat.le_refl _
  show wkGo l X 2 0 0 0 S [some (.int l0I), none] []
  unfold rJ11_isValidCodePoint_9a6ad at h
  refine wk_iload_n C dJ11_isValidCodePoint_9a6ad_0 rfl rfl ?_
  refine wk_bipush C (v := 16) dJ11_isValidCodePoint_9a6ad_1 (by decide) ?_
  refine wk_iushr C dJ11_isValidCodePoint_9a6ad_3 rfl ?_
  obtain ⟨x1, ex1, h⟩ := wkLt_some h
  refine wk_topi ex1 ?_
  refine wk_istore_n C (lv' := [some (.int l0I), some (.int x1)]) dJ11_isValidCodePoint_9a6ad_4 rfl (by decide) rfl ?_
  refine wk_iload_n C dJ11_isValidCodePoint_9a6ad_5 rfl rfl ?_
  refine wk_bipush C (v := 17) dJ11_isValidCodePoint_9a6ad_6 (by decide) ?_
  refine wk_icmp_ge C (tgt := 15) dJ11_isValidCodePoint_9a6ad_8 (by decide) (fun c2 => ?_) (fun c2 => ?_)
  · rw [if_pos c2] at h
    refine wk_iconst C (v := 0) dJ11_isValidCodePoint_9a6ad_15 (by decide) ?_
    exact E _ _ _ _ _ _ (Nat.le_refl 0) (Nat.le_refl 0) dJ11_isValidCodePoint_9a6ad_16 rfl ⟨(0 : Int32), rfl, h, hW, hE⟩
  · rw [if_neg c2] at h
    refine wk_iconst C (v := 1) dJ11_isValidCodePoint_9a6ad_11 (by decide) ?_
    refine wk_goto C (tgt := 16) dJ11_isValidCodePoint_9a6ad_12 (by decide) ?_
    exact E _ _ _ _ _ _ (Nat.le_refl 0) (Nat.le_refl 0) dJ11_isValidCodePoint_9a6ad_16 rfl ⟨(1 : Int32), rfl, h, hW, hE⟩
def wvJ11_highSurrogate_5068e : List Cond := .code yJ11_highSurrogate_5068e cJ11_highSurrogate_5068e 1 (some .char) :: (([.constant RJ11 110 (55232)] : List Cond) ++ (([]) ++ ([])))
theorem gdJ11_highSurrogate_5068e : ∀ w ∈ wvJ11_highSurrogate_5068e, wkGd w := wkGdC rfl (wkGdA (wkGdL (by decide +kernel)) (wkGdA (fun _ h => absurd h List.not_mem_nil) (fun _ h => absurd h List.not_mem_nil)))
def rJ11_highSurrogate_5068e (F : Nat) (l0I : Int32) (S : wPS) (Φ : (Int32 → wPS → Prop)) : Prop :=
  ((((Int32.toUInt32 (((l0I).toUInt32 >>> (((10 : Int32)).toUInt32 &&& Int32.toUInt32 31)).toInt32 + (55232 : Int32))) % 65536).toInt32 : Int32).toUInt32 % 65536).toInt32 = ((Int32.toUInt32 (((l0I).toUInt32 >>> (((10 : Int32)).toUInt32 &&& Int32.toUInt32 31)).toInt32 + (55232 : Int32))) % 65536).toInt32 ∧ Φ ((Int32.toUInt32 (((l0I).toUInt32 >>> (((10 : Int32)).toUInt32 &&& Int32.toUInt32 31)).toInt32 + (55232 : Int32))) % 65536).toInt32 S
set_option maxHeartbeats 4000000 in
set_option maxRecDepth 100000 in
theorem tJ11_highSurrogate_5068e {l : Launch} {g : wkG} {F : Nat}  {S : wPS} {l0I : Int32} {Φ : (Int32 → wPS → Prop)} (hW : wkWF S)  (h : rJ11_highSurrogate_5068e F l0I S Φ) : wkMet l g yJ11_highSurrogate_5068e wvJ11_highSurrogate_5068e 0 0 0 [.int l0I] S (fun v' S'' => ∃ v : Int32, v' = some (.int v) ∧ Φ v S'' ∧ wkWF S'' ∧ wkExt S S'') := by
  refine wkMet_of (ret := (some .char)) (by decide) rfl (Nat.le_of_ble_eq_true rfl) (fun X hg C hR E => ?_)
  subst hg
  have hE : wkExt S S := wkExt.rf
  have hd : 0 ≤ 0 := Nat.le_refl _
  show wkGo l X 1 0 0 0 S [some (.int l0I)] []
  unfold rJ11_highSurrogate_5068e at h
  refine wk_iload_n C dJ11_highSurrogate_5068e_0 rfl rfl ?_
  refine wk_bipush C (v := 10) dJ11_highSurrogate_5068e_1 (by decide) ?_
  refine wk_iushr C dJ11_highSurrogate_5068e_3 rfl ?_
  refine wk_ldc C (v := 55232) (List.mem_of_getElem? (i := 1) rfl) dJ11_highSurrogate_5068e_4 ?_
  refine wk_iadd C dJ11_highSurrogate_5068e_6 rfl ?_
  refine wk_i2c C dJ11_highSurrogate_5068e_7 rfl ?_
  obtain ⟨b1, h⟩ := h
  exact E _ _ _ _ _ _ (Nat.le_refl 0) (Nat.le_refl 0) dJ11_highSurrogate_5068e_8 (wkNarC b1) ⟨((Int32.toUInt32 (((l0I).toUInt32 >>> (((10 : Int32)).toUInt32 &&& Int32.toUInt32 31)).toInt32 + (55232 : Int32))) % 65536).toInt32, rfl, h, hW, hE⟩
def wvJ11_lowSurrogate_5068e : List Cond := .code yJ11_lowSurrogate_5068e cJ11_lowSurrogate_5068e 1 (some .char) :: (([.constant RJ11 76 (56320)] : List Cond) ++ (([]) ++ ([])))
theorem gdJ11_lowSurrogate_5068e : ∀ w ∈ wvJ11_lowSurrogate_5068e, wkGd w := wkGdC rfl (wkGdA (wkGdL (by decide +kernel)) (wkGdA (fun _ h => absurd h List.not_mem_nil) (fun _ h => absurd h List.not_mem_nil)))
def rJ11_lowSurrogate_5068e (F : Nat) (l0I : Int32) (S : wPS) (Φ : (Int32 → wPS → Prop)) : Prop :=
  ((((Int32.toUInt32 ((l0I &&& (1023 : Int32)) + (56320 : Int32))) % 65536).toInt32 : Int32).toUInt32 % 65536).toInt32 = ((Int32.toUInt32 ((l0I &&& (1023 : Int32)) + (56320 : Int32))) % 65536).toInt32 ∧ Φ ((Int32.toUInt32 ((l0I &&& (1023 : Int32)) + (56320 : Int32))) % 65536).toInt32 S
set_option maxHeartbeats 4000000 in
set_option maxRecDepth 100000 in
theorem tJ11_lowSurrogate_5068e {l : Launch} {g : wkG} {F : Nat}  {S : wPS} {l0I : Int32} {Φ : (Int32 → wPS → Prop)} (hW : wkWF S)  (h : rJ11_lowSurrogate_5068e F l0I S Φ) : wkMet l g yJ11_lowSurrogate_5068e wvJ11_lowSurrogate_5068e 0 0 0 [.int l0I] S (fun v' S'' => ∃ v : Int32, v' = some (.int v) ∧ Φ v S'' ∧ wkWF S'' ∧ wkExt S S'') := by
  refine wkMet_of (ret := (some .char)) (by decide) rfl (Nat.le_of_ble_eq_true rfl) (fun X hg C hR E => ?_)
  subst hg
  have hE : wkExt S S := wkExt.rf
  have hd : 0 ≤ 0 := Nat.le_refl _
  show wkGo l X 1 0 0 0 S [some (.int l0I)] []
  unfold rJ11_lowSurrogate_5068e at h
  refine wk_iload_n C dJ11_lowSurrogate_5068e_0 rfl rfl ?_
  refine wk_sipush C (v := 1023) dJ11_lowSurrogate_5068e_1 (by decide) ?_
  refine wk_iand C dJ11_lowSurrogate_5068e_4 rfl ?_
  refine wk_ldc C (v := 56320) (List.mem_of_getElem? (i := 1) rfl) dJ11_lowSurrogate_5068e_5 ?_
  refine wk_iadd C dJ11_lowSurrogate_5068e_7 rfl ?_
  refine wk_i2c C dJ11_lowSurrogate_5068e_8 rfl ?_
  obtain ⟨b1, h⟩ := h
  exact E _ _ _ _ _ _ (Nat.le_refl 0) (Nat.le_refl 0) dJ11_lowSurrogate_5068e_9 (wkNarC b1) ⟨((Int32.toUInt32 ((l0I &&& (1023 : Int32)) + (56320 : Int32))) % 65536).toInt32, rfl, h, hW, hE⟩
def wvJ6_bitCount_0f7a4 : List Cond := .code yJ6_bitCount_0f7a4 cJ6_bitCount_0f7a4 1 (some .int) :: (([.constant RJ6 265 (1431655765), .constant RJ6 266 (858993459), .constant RJ6 267 (252645135)] : List Cond) ++ (([]) ++ ([])))
theorem gdJ6_bitCount_0f7a4 : ∀ w ∈ wvJ6_bitCount_0f7a4, wkGd w := wkGdC rfl (wkGdA (wkGdL (by decide +kernel)) (wkGdA (fun _ h => absurd h List.not_mem_nil) (fun _ h => absurd h List.not_mem_nil)))
def rJ6_bitCount_0f7a4 (F : Nat) (l0I : Int32) (S : wPS) (Φ : (Int32 → wPS → Prop)) : Prop :=
  wkLt ((l0I - (((l0I).toUInt32 >>> (((1 : Int32)).toUInt32 &&& Int32.toUInt32 31)).toInt32 &&& (1431655765 : Int32)))) fun x1 => wkLt (((x1 &&& (858993459 : Int32)) + (((x1).toUInt32 >>> (((2 : Int32)).toUInt32 &&& Int32.toUInt32 31)).toInt32 &&& (858993459 : Int32)))) fun x2 => wkLt (((x2 + ((x2).toUInt32 >>> (((4 : Int32)).toUInt32 &&& Int32.toUInt32 31)).toInt32) &&& (252645135 : Int32))) fun x3 => wkLt ((x3 + ((x3).toUInt32 >>> (((8 : Int32)).toUInt32 &&& Int32.toUInt32 31)).toInt32)) fun x4 => wkLt ((x4 + ((x4).toUInt32 >>> (((16 : Int32)).toUInt32 &&& Int32.toUInt32 31)).toInt32)) fun x5 => Φ (x5 &&& (63 : Int32)) S
set_option maxHeartbeats 4000000 in
set_option maxRecDepth 100000 in
theorem tJ6_bitCount_0f7a4 {l : Launch} {g : wkG} {F : Nat}  {S : wPS} {l0I : Int32} {Φ : (Int32 → wPS → Prop)} (hW : wkWF S)  (h : rJ6_bitCount_0f7a4 F l0I S Φ) : wkMet l g yJ6_bitCount_0f7a4 wvJ6_bitCount_0f7a4 0 0 0 [.int l0I] S (fun v' S'' => ∃ v : Int32, v' = some (.int v) ∧ Φ v S'' ∧ wkWF S'' ∧ wkExt S S'') := by
  refine wkMet_of (ret := (some .int)) (by decide) rfl (Nat.le_of_ble_eq_true rfl) (fun X hg C hR E => ?_)
  subst hg
  have hE : wkExt S S := wkExt.rf
  have hd : 0 ≤ 0 := Nat.le_refl _
  show wkGo l X 1 0 0 0 S [some (.int l0I)] []
  unfold rJ6_bitCount_0f7a4 at h
  refine wk_iload_n C dJ6_bitCount_0f7a4_0 rfl rfl ?_
  refine wk_iload_n C dJ6_bitCount_0f7a4_1 rfl rfl ?_
  refine wk_iconst C (v := 1) dJ6_bitCount_0f7a4_2 (by decide) ?_
  refine wk_iushr C dJ6_bitCount_0f7a4_3 rfl ?_
  refine wk_ldcw C (v := 1431655765) (List.mem_of_getElem? (i := 1) rfl) dJ6_bitCount_0f7a4_4 ?_
  refine wk_iand C dJ6_bitCount_0f7a4_7 rfl ?_
  refine wk_isub C dJ6_bitCount_0f7a4_8 rfl ?_
  obtain ⟨x1, ex1, h⟩ := wkLt_some h
  refine wk_topi ex1 ?_
  refine wk_istore_n C (lv' := [some (.int x1)]) dJ6_bitCount_0f7a4_9 rfl (by decide) rfl ?_
  refine wk_iload_n C dJ6_bitCount_0f7a4_10 rfl rfl ?_
  refine wk_ldcw C (v := 858993459) (List.mem_of_getElem? (i := 2) rfl) dJ6_bitCount_0f7a4_11 ?_
  refine wk_iand C dJ6_bitCount_0f7a4_14 rfl ?_
  refine wk_iload_n C dJ6_bitCount_0f7a4_15 rfl rfl ?_
  refine wk_iconst C (v := 2) dJ6_bitCount_0f7a4_16 (by decide) ?_
  refine wk_iushr C dJ6_bitCount_0f7a4_17 rfl ?_
  refine wk_ldcw C (v := 858993459) (List.mem_of_getElem? (i := 2) rfl) dJ6_bitCount_0f7a4_18 ?_
  refine wk_iand C dJ6_bitCount_0f7a4_21 rfl ?_
  refine wk_iadd C dJ6_bitCount_0f7a4_22 rfl ?_
  obtain ⟨x2, ex2, h⟩ := wkLt_some h
  refine wk_topi ex2 ?_
  refine wk_istore_n C (lv' := [some (.int x2)]) dJ6_bitCount_0f7a4_23 rfl (by decide) rfl ?_
  refine wk_iload_n C dJ6_bitCount_0f7a4_24 rfl rfl ?_
  refine wk_iload_n C dJ6_bitCount_0f7a4_25 rfl rfl ?_
  refine wk_iconst C (v := 4) dJ6_bitCount_0f7a4_26 (by decide) ?_
  refine wk_iushr C dJ6_bitCount_0f7a4_27 rfl ?_
  refine wk_iadd C dJ6_bitCount_0f7a4_28 rfl ?_
  refine wk_ldcw C (v := 252645135) (List.mem_of_getElem? (i := 3) rfl) dJ6_bitCount_0f7a4_29 ?_
  refine wk_iand C dJ6_bitCount_0f7a4_32 rfl ?_
  obtain ⟨x3, ex3, h⟩ := wkLt_some h
  refine wk_topi ex3 ?_
  refine wk_istore_n C (lv' := [some (.int x3)]) dJ6_bitCount_0f7a4_33 rfl (by decide) rfl ?_
  refine wk_iload_n C dJ6_bitCount_0f7a4_34 rfl rfl ?_
  refine wk_iload_n C dJ6_bitCount_0f7a4_35 rfl rfl ?_
  refine wk_bipush C (v := 8) dJ6_bitCount_0f7a4_36 (by decide) ?_
  refine wk_iushr C dJ6_bitCount_0f7a4_38 rfl ?_
  refine wk_iadd C dJ6_bitCount_0f7a4_39 rfl ?_
  obtain ⟨x4, ex4, h⟩ := wkLt_some h
  refine wk_topi ex4 ?_
  refine wk_istore_n C (lv' := [some (.int x4)]) dJ6_bitCount_0f7a4_40 rfl (by decide) rfl ?_
  refine wk_iload_n C dJ6_bitCount_0f7a4_41 rfl rfl ?_
  refine wk_iload_n C dJ6_bitCount_0f7a4_42 rfl rfl ?_
  refine wk_bipush C (v := 16) dJ6_bitCount_0f7a4_43 (by decide) ?_
  refine wk_iushr C dJ6_bitCount_0f7a4_45 rfl ?_
  refine wk_iadd C dJ6_bitCount_0f7a4_46 rfl ?_
  obtain ⟨x5, ex5, h⟩ := wkLt_some h
  refine wk_topi ex5 ?_
  refine wk_istore_n C (lv' := [some (.int x5)]) dJ6_bitCount_0f7a4_47 rfl (by decide) rfl ?_
  refine wk_iload_n C dJ6_bitCount_0f7a4_48 rfl rfl ?_
  refine wk_bipush C (v := 63) dJ6_bitCount_0f7a4_49 (by decide) ?_
  refine wk_iand C dJ6_bitCount_0f7a4_51 rfl ?_
  exact E _ _ _ _ _ _ (Nat.le_refl 0) (Nat.le_refl 0) dJ6_bitCount_0f7a4_52 ⟨(x5 &&& (63 : Int32)), rfl, h, hW, hE⟩
def wvJ9_floorDiv_7cf53 : List Cond := .code yJ9_floorDiv_7cf53 cJ9_floorDiv_7cf53 3 (some .int) :: (([] : List Cond) ++ (([]) ++ ([])))
theorem gdJ9_floorDiv_7cf53 : ∀ w ∈ wvJ9_floorDiv_7cf53, wkGd w := wkGdC rfl (wkGdA (wkGdL (by decide +kernel)) (wkGdA (fun _ h => absurd h List.not_mem_nil) (fun _ h => absurd h List.not_mem_nil)))
def rJ9_floorDiv_7cf53 (F : Nat) (l0I : Int32) (l1I : Int32) (S : wPS) (Φ : (Int32 → wPS → Prop)) : Prop :=
  ¬ l1I = 0 ∧ wkLt ((l0I / l1I)) fun x2 => if 0 ≤ (l0I ^^^ l1I) then (Φ x2 S) else (if (x2 * l1I) = l0I then (Φ x2 S) else (Φ (x2 - (1 : Int32)) S))
set_option maxHeartbeats 4000000 in
set_option maxRecDepth 100000 in
theorem tJ9_floorDiv_7cf53 {l : Launch} {g : wkG} {F : Nat}  {S : wPS} {l0I : Int32} {l1I : Int32} {Φ : (Int32 → wPS → Prop)} (hW : wkWF S)  (h : rJ9_floorDiv_7cf53 F l0I l1I S Φ) : wkMet l g yJ9_floorDiv_7cf53 wvJ9_floorDiv_7cf53 0 0 0 [.int l0I, .int l1I] S (fun v' S'' => ∃ v : Int32, v' = some (.int v) ∧ Φ v S'' ∧ wkWF S'' ∧ wkExt S S'') := by
  refine wkMet_ofF (ret := (some .int)) (by decide +kernel) rfl (Nat.le_of_ble_eq_true rfl) (fun X hg C hR E => ?_)
  subst hg
  have hE : wkExt S S := wkExt.rf
  have hd : 0 ≤ 0 := Nat.le_refl _
  show wkGo l X 3 0 0 0 S [some (.int l0I), some (.int l1I), none] []
  unfold rJ9_floorDiv_7cf53 at h
  refine wk_iload_n C dJ9_floorDiv_7cf53_0 rfl rfl ?_
  refine wk_iload_n C dJ9_floorDiv_7cf53_1 rfl rfl ?_
  obtain ⟨z1, h⟩ := h
  refine wk_idiv C dJ9_floorDiv_7cf53_2 z1 rfl ?_
  obtain ⟨x2, ex2, h⟩ := wkLt_some h
  refine wk_topi ex2 ?_
  refine wk_istore_n C (lv' := [some (.int l0I), some (.int l1I), some (.int x2)]) dJ9_floorDiv_7cf53_3 rfl (by decide) rfl ?_
  refine wk_iload_n C dJ9_floorDiv_7cf53_4 rfl rfl ?_
  refine wk_iload_n C dJ9_floorDiv_7cf53_5 rfl rfl ?_
  refine wk_ixor C dJ9_floorDiv_7cf53_6 rfl ?_
  refine wk_if_ge C (tgt := 21) dJ9_floorDiv_7cf53_7 (by decide) (fun c3 => ?_) (fun c3 => ?_)
  · rw [if_pos c3] at h
    refine wk_iload_n C dJ9_floorDiv_7cf53_21 rfl rfl ?_
    exact E _ _ _ _ _ _ (Nat.le_refl 0) (Nat.le_refl 0) dJ9_floorDiv_7cf53_22 ⟨x2, rfl, h, hW, hE⟩
  · rw [if_neg c3] at h
    refine wk_iload_n C dJ9_floorDiv_7cf53_10 rfl rfl ?_
    refine wk_iload_n C dJ9_floorDiv_7cf53_11 rfl rfl ?_
    refine wk_imul C dJ9_floorDiv_7cf53_12 rfl ?_
    refine wk_iload_n C dJ9_floorDiv_7cf53_13 rfl rfl ?_
    refine wk_icmp_eq C (tgt := 21) dJ9_floorDiv_7cf53_14 (by decide) (fun c4 => ?_) (fun c4 => ?_)
    · rw [if_pos c4] at h
      refine wk_iload_n C dJ9_floorDiv_7cf53_21 rfl rfl ?_
      exact E _ _ _ _ _ _ (Nat.le_refl 0) (Nat.le_refl 0) dJ9_floorDiv_7cf53_22 ⟨x2, rfl, h, hW, hE⟩
    · rw [if_neg c4] at h
      refine wk_iload_n C dJ9_floorDiv_7cf53_17 rfl rfl ?_
      refine wk_iconst C (v := 1) dJ9_floorDiv_7cf53_18 (by decide) ?_
      refine wk_isub C dJ9_floorDiv_7cf53_19 rfl ?_
      exact E _ _ _ _ _ _ (Nat.le_refl 0) (Nat.le_refl 0) dJ9_floorDiv_7cf53_20 ⟨(x2 - (1 : Int32)), rfl, h, hW, hE⟩
def wvJ9_floorDiv_f86c9 : List Cond := .code yJ9_floorDiv_f86c9 cJ9_floorDiv_f86c9 6 (some .long) :: (([] : List Cond) ++ (([]) ++ ([])))
theorem gdJ9_floorDiv_f86c9 : ∀ w ∈ wvJ9_floorDiv_f86c9, wkGd w := wkGdC rfl (wkGdA (wkGdL (by decide +kernel)) (wkGdA (fun _ h => absurd h List.not_mem_nil) (fun _ h => absurd h List.not_mem_nil)))
def rJ9_floorDiv_f86c9 (F : Nat) (l0J : Int64) (l2J : Int64) (S : wPS) (Φ : (Int64 → wPS → Prop)) : Prop :=
  ¬ l2J = 0 ∧ wkLt ((l0J / l2J)) fun x2 => if 0 ≤ (lg_cmp (l0J ^^^ l2J) (0 : Int64)) then (Φ x2 S) else (if (lg_cmp (x2 * l2J) l0J) = 0 then (Φ x2 S) else (Φ (x2 - (1 : Int64)) S))
set_option maxHeartbeats 4000000 in
set_option maxRecDepth 100000 in
theorem tJ9_floorDiv_f86c9 {l : Launch} {g : wkG} {F : Nat}  {S : wPS} {l0J : Int64} {l2J : Int64} {Φ : (Int64 → wPS → Prop)} (hW : wkWF S)  (h : rJ9_floorDiv_f86c9 F l0J l2J S Φ) : wkMet l g yJ9_floorDiv_f86c9 wvJ9_floorDiv_f86c9 0 0 0 [.long l0J, .long l2J] S (fun v' S'' => ∃ v : Int64, v' = some (.long v) ∧ Φ v S'' ∧ wkWF S'' ∧ wkExt S S'') := by
  refine wkMet_ofF (ret := (some .long)) (by decide +kernel) rfl (Nat.le_of_ble_eq_true rfl) (fun X hg C hR E => ?_)
  subst hg
  have hE : wkExt S S := wkExt.rf
  have hd : 0 ≤ 0 := Nat.le_refl _
  show wkGo l X 6 0 0 0 S [some (.long l0J), none, some (.long l2J), none, none, none] []
  unfold rJ9_floorDiv_f86c9 at h
  refine wk_lload_n C dJ9_floorDiv_f86c9_0 rfl rfl ?_
  refine wk_lload_n C dJ9_floorDiv_f86c9_1 rfl rfl ?_
  obtain ⟨z1, h⟩ := h
  refine wk_ldiv C dJ9_floorDiv_f86c9_2 z1 rfl ?_
  obtain ⟨x2, ex2, h⟩ := wkLt_some h
  refine wk_topl ex2 ?_
  refine wk_lstore C (lv' := [some (.long l0J), none, some (.long l2J), none, some (.long x2), none]) dJ9_floorDiv_f86c9_3 (by decide) rfl ?_
  refine wk_lload_n C dJ9_floorDiv_f86c9_5 rfl rfl ?_
  refine wk_lload_n C dJ9_floorDiv_f86c9_6 rfl rfl ?_
  refine wk_lxor C dJ9_floorDiv_f86c9_7 rfl ?_
  refine wk_lconst C (v := 0) dJ9_floorDiv_f86c9_8 (by decide) ?_
  refine wk_lcmp C dJ9_floorDiv_f86c9_9 rfl ?_
  refine wk_if_ge C (tgt := 27) dJ9_floorDiv_f86c9_10 (by decide) (fun c3 => ?_) (fun c3 => ?_)
  · rw [if_pos c3] at h
    refine wk_lload C dJ9_floorDiv_f86c9_27 rfl ?_
    exact E _ _ _ _ _ _ (Nat.le_refl 0) (Nat.le_refl 0) dJ9_floorDiv_f86c9_29 ⟨x2, rfl, h, hW, hE⟩
  · rw [if_neg c3] at h
    refine wk_lload C dJ9_floorDiv_f86c9_13 rfl ?_
    refine wk_lload_n C dJ9_floorDiv_f86c9_15 rfl rfl ?_
    refine wk_lmul C dJ9_floorDiv_f86c9_16 rfl ?_
    refine wk_lload_n C dJ9_floorDiv_f86c9_17 rfl rfl ?_
    refine wk_lcmp C dJ9_floorDiv_f86c9_18 rfl ?_
    refine wk_if_eq C (tgt := 27) dJ9_floorDiv_f86c9_19 (by decide) (fun c4 => ?_) (fun c4 => ?_)
    · rw [if_pos c4] at h
      refine wk_lload C dJ9_floorDiv_f86c9_27 rfl ?_
      exact E _ _ _ _ _ _ (Nat.le_refl 0) (Nat.le_refl 0) dJ9_floorDiv_f86c9_29 ⟨x2, rfl, h, hW, hE⟩
    · rw [if_neg c4] at h
      refine wk_lload C dJ9_floorDiv_f86c9_22 rfl ?_
      refine wk_lconst C (v := 1) dJ9_floorDiv_f86c9_24 (by decide) ?_
      refine wk_lsub C dJ9_floorDiv_f86c9_25 rfl ?_
      exact E _ _ _ _ _ _ (Nat.le_refl 0) (Nat.le_refl 0) dJ9_floorDiv_f86c9_26 ⟨(x2 - (1 : Int64)), rfl, h, hW, hE⟩
def wvJ9_floorMod_7cf53 : List Cond := .code yJ9_floorMod_7cf53 cJ9_floorMod_7cf53 3 (some .int) :: (([] : List Cond) ++ (([]) ++ ([])))
theorem gdJ9_floorMod_7cf53 : ∀ w ∈ wvJ9_floorMod_7cf53, wkGd w := wkGdC rfl (wkGdA (wkGdL (by decide +kernel)) (wkGdA (fun _ h => absurd h List.not_mem_nil) (fun _ h => absurd h List.not_mem_nil)))
def rJ9_floorMod_7cf53 (F : Nat) (l0I : Int32) (l1I : Int32) (S : wPS) (Φ : (Int32 → wPS → Prop)) : Prop :=
  ¬ l1I = 0 ∧ wkLt ((l0I - l0I / l1I * l1I)) fun x2 => if 0 ≤ (l0I ^^^ l1I) then (Φ x2 S) else (if x2 = 0 then (Φ x2 S) else (Φ (x2 + l1I) S))
set_option maxHeartbeats 4000000 in
set_option maxRecDepth 100000 in
theorem tJ9_floorMod_7cf53 {l : Launch} {g : wkG} {F : Nat}  {S : wPS} {l0I : Int32} {l1I : Int32} {Φ : (Int32 → wPS → Prop)} (hW : wkWF S)  (h : rJ9_floorMod_7cf53 F l0I l1I S Φ) : wkMet l g yJ9_floorMod_7cf53 wvJ9_floorMod_7cf53 0 0 0 [.int l0I, .int l1I] S (fun v' S'' => ∃ v : Int32, v' = some (.int v) ∧ Φ v S'' ∧ wkWF S'' ∧ wkExt S S'') := by
  refine wkMet_ofF (ret := (some .int)) (by decide +kernel) rfl (Nat.le_of_ble_eq_true rfl) (fun X hg C hR E => ?_)
  subst hg
  have hE : wkExt S S := wkExt.rf
  have hd : 0 ≤ 0 := Nat.le_refl _
  show wkGo l X 3 0 0 0 S [some (.int l0I), some (.int l1I), none] []
  unfold rJ9_floorMod_7cf53 at h
  refine wk_iload_n C dJ9_floorMod_7cf53_0 rfl rfl ?_
  refine wk_iload_n C dJ9_floorMod_7cf53_1 rfl rfl ?_
  obtain ⟨z1, h⟩ := h
  refine wk_irem C dJ9_floorMod_7cf53_2 z1 rfl ?_
  obtain ⟨x2, ex2, h⟩ := wkLt_some h
  refine wk_topi ex2 ?_
  refine wk_istore_n C (lv' := [some (.int l0I), some (.int l1I), some (.int x2)]) dJ9_floorMod_7cf53_3 rfl (by decide) rfl ?_
  refine wk_iload_n C dJ9_floorMod_7cf53_4 rfl rfl ?_
  refine wk_iload_n C dJ9_floorMod_7cf53_5 rfl rfl ?_
  refine wk_ixor C dJ9_floorMod_7cf53_6 rfl ?_
  refine wk_if_ge C (tgt := 18) dJ9_floorMod_7cf53_7 (by decide) (fun c3 => ?_) (fun c3 => ?_)
  · rw [if_pos c3] at h
    refine wk_iload_n C dJ9_floorMod_7cf53_18 rfl rfl ?_
    exact E _ _ _ _ _ _ (Nat.le_refl 0) (Nat.le_refl 0) dJ9_floorMod_7cf53_19 ⟨x2, rfl, h, hW, hE⟩
  · rw [if_neg c3] at h
    refine wk_iload_n C dJ9_floorMod_7cf53_10 rfl rfl ?_
    refine wk_if_eq C (tgt := 18) dJ9_floorMod_7cf53_11 (by decide) (fun c4 => ?_) (fun c4 => ?_)
    · rw [if_pos c4] at h
      refine wk_iload_n C dJ9_floorMod_7cf53_18 rfl rfl ?_
      exact E _ _ _ _ _ _ (Nat.le_refl 0) (Nat.le_refl 0) dJ9_floorMod_7cf53_19 ⟨x2, rfl, h, hW, hE⟩
    · rw [if_neg c4] at h
      refine wk_iload_n C dJ9_floorMod_7cf53_14 rfl rfl ?_
      refine wk_iload_n C dJ9_floorMod_7cf53_15 rfl rfl ?_
      refine wk_iadd C dJ9_floorMod_7cf53_16 rfl ?_
      exact E _ _ _ _ _ _ (Nat.le_refl 0) (Nat.le_refl 0) dJ9_floorMod_7cf53_17 ⟨(x2 + l1I), rfl, h, hW, hE⟩
def wvJ9_floorMod_f86c9 : List Cond := .code yJ9_floorMod_f86c9 cJ9_floorMod_f86c9 6 (some .long) :: (([] : List Cond) ++ (([]) ++ ([])))
theorem gdJ9_floorMod_f86c9 : ∀ w ∈ wvJ9_floorMod_f86c9, wkGd w := wkGdC rfl (wkGdA (wkGdL (by decide +kernel)) (wkGdA (fun _ h => absurd h List.not_mem_nil) (fun _ h => absurd h List.not_mem_nil)))
def rJ9_floorMod_f86c9 (F : Nat) (l0J : Int64) (l2J : Int64) (S : wPS) (Φ : (Int64 → wPS → Prop)) : Prop :=
  ¬ l2J = 0 ∧ wkLt ((l0J - l0J / l2J * l2J)) fun x2 => if 0 ≤ (lg_cmp (l0J ^^^ l2J) (0 : Int64)) then (Φ x2 S) else (if (lg_cmp x2 (0 : Int64)) = 0 then (Φ x2 S) else (Φ (x2 + l2J) S))
set_option maxHeartbeats 4000000 in
set_option maxRecDepth 100000 in
theorem tJ9_floorMod_f86c9 {l : Launch} {g : wkG} {F : Nat}  {S : wPS} {l0J : Int64} {l2J : Int64} {Φ : (Int64 → wPS → Prop)} (hW : wkWF S)  (h : rJ9_floorMod_f86c9 F l0J l2J S Φ) : wkMet l g yJ9_floorMod_f86c9 wvJ9_floorMod_f86c9 0 0 0 [.long l0J, .long l2J] S (fun v' S'' => ∃ v : Int64, v' = some (.long v) ∧ Φ v S'' ∧ wkWF S'' ∧ wkExt S S'') := by
  refine wkMet_ofF (ret := (some .long)) (by decide +kernel) rfl (Nat.le_of_ble_eq_true rfl) (fun X hg C hR E => ?_)
  subst hg
  have hE : wkExt S S := wkExt.rf
  have hd : 0 ≤ 0 := Nat.le_refl _
  show wkGo l X 6 0 0 0 S [some (.long l0J), none, some (.long l2J), none, none, none] []
  unfold rJ9_floorMod_f86c9 at h
  refine wk_lload_n C dJ9_floorMod_f86c9_0 rfl rfl ?_
  refine wk_lload_n C dJ9_floorMod_f86c9_1 rfl rfl ?_
  obtain ⟨z1, h⟩ := h
  refine wk_lrem C dJ9_floorMod_f86c9_2 z1 rfl ?_
  obtain ⟨x2, ex2, h⟩ := wkLt_some h
  refine wk_topl ex2 ?_
  refine wk_lstore C (lv' := [some (.long l0J), none, some (.long l2J), none, some (.long x2), none]) dJ9_floorMod_f86c9_3 (by decide) rfl ?_
  refine wk_lload_n C dJ9_floorMod_f86c9_5 rfl rfl ?_
  refine wk_lload_n C dJ9_floorMod_f86c9_6 rfl rfl ?_
  refine wk_lxor C dJ9_floorMod_f86c9_7 rfl ?_
  refine wk_lconst C (v := 0) dJ9_floorMod_f86c9_8 (by decide) ?_
  refine wk_lcmp C dJ9_floorMod_f86c9_9 rfl ?_
  refine wk_if_ge C (tgt := 25) dJ9_floorMod_f86c9_10 (by decide) (fun c3 => ?_) (fun c3 => ?_)
  · rw [if_pos c3] at h
    refine wk_lload C dJ9_floorMod_f86c9_25 rfl ?_
    exact E _ _ _ _ _ _ (Nat.le_refl 0) (Nat.le_refl 0) dJ9_floorMod_f86c9_27 ⟨x2, rfl, h, hW, hE⟩
  · rw [if_neg c3] at h
    refine wk_lload C dJ9_floorMod_f86c9_13 rfl ?_
    refine wk_lconst C (v := 0) dJ9_floorMod_f86c9_15 (by decide) ?_
    refine wk_lcmp C dJ9_floorMod_f86c9_16 rfl ?_
    refine wk_if_eq C (tgt := 25) dJ9_floorMod_f86c9_17 (by decide) (fun c4 => ?_) (fun c4 => ?_)
    · rw [if_pos c4] at h
      refine wk_lload C dJ9_floorMod_f86c9_25 rfl ?_
      exact E _ _ _ _ _ _ (Nat.le_refl 0) (Nat.le_refl 0) dJ9_floorMod_f86c9_27 ⟨x2, rfl, h, hW, hE⟩
    · rw [if_neg c4] at h
      refine wk_lload C dJ9_floorMod_f86c9_20 rfl ?_
      refine wk_lload_n C dJ9_floorMod_f86c9_22 rfl rfl ?_
      refine wk_ladd C dJ9_floorMod_f86c9_23 rfl ?_
      exact E _ _ _ _ _ _ (Nat.le_refl 0) (Nat.le_refl 0) dJ9_floorMod_f86c9_24 ⟨(x2 + l2J), rfl, h, hW, hE⟩
def wvJ1_canEncode_9a6ad : List Cond := .code yJ1_canEncode_9a6ad cJ1_canEncode_9a6ad 1 (some .boolean) :: (([] : List Cond) ++ (([]) ++ ([])))
theorem gdJ1_canEncode_9a6ad : ∀ w ∈ wvJ1_canEncode_9a6ad, wkGd w := wkGdC rfl (wkGdA (wkGdL (by decide +kernel)) (wkGdA (fun _ h => absurd h List.not_mem_nil) (fun _ h => absurd h List.not_mem_nil)))
def rJ1_canEncode_9a6ad (F : Nat) (l0I : Int32) (S : wPS) (Φ : (Int32 → wPS → Prop)) : Prop :=
  if l0I < 0 then (Φ (0 : Int32) S) else (if (255 : Int32) < l0I then (Φ (0 : Int32) S) else (Φ (1 : Int32) S))
set_option maxHeartbeats 4000000 in
set_option maxRecDepth 100000 in
theorem tJ1_canEncode_9a6ad {l : Launch} {g : wkG} {F : Nat}  {S : wPS} {l0I : Int32} {Φ : (Int32 → wPS → Prop)} (hW : wkWF S)  (h : rJ1_canEncode_9a6ad F l0I S Φ) : wkMet l g yJ1_canEncode_9a6ad wvJ1_canEncode_9a6ad 0 0 0 [.int l0I] S (fun v' S'' => ∃ v : Int32, v' = some (.int v) ∧ Φ v S'' ∧ wkWF S'' ∧ wkExt S S'') := by
  refine wkMet_of (ret := (some .boolean)) (by decide) rfl (Nat.le_of_ble_eq_true rfl) (fun X hg C hR E => ?_)
  subst hg
  have hE : wkExt S S := wkExt.rf
  have hd : 0 ≤ 0 := Nat.le_refl _
  show wkGo l X 1 0 0 0 S [some (.int l0I)] []
  unfold rJ1_canEncode_9a6ad at h
  refine wk_iload_n C dJ1_canEncode_9a6ad_0 rfl rfl ?_
  refine wk_if_lt C (tgt := 15) dJ1_canEncode_9a6ad_1 (by decide) (fun c1 => ?_) (fun c1 => ?_)
  · rw [if_pos c1] at h
    refine wk_iconst C (v := 0) dJ1_canEncode_9a6ad_15 (by decide) ?_
    exact E _ _ _ _ _ _ (Nat.le_refl 0) (Nat.le_refl 0) dJ1_canEncode_9a6ad_16 rfl ⟨(0 : Int32), rfl, h, hW, hE⟩
  · rw [if_neg c1] at h
    refine wk_iload_n C dJ1_canEncode_9a6ad_4 rfl rfl ?_
    refine wk_sipush C (v := 255) dJ1_canEncode_9a6ad_5 (by decide) ?_
    refine wk_icmp_gt C (tgt := 15) dJ1_canEncode_9a6ad_8 (by decide) (fun c2 => ?_) (fun c2 => ?_)
    · rw [if_pos c2] at h
      refine wk_iconst C (v := 0) dJ1_canEncode_9a6ad_15 (by decide) ?_
      exact E _ _ _ _ _ _ (Nat.le_refl 0) (Nat.le_refl 0) dJ1_canEncode_9a6ad_16 rfl ⟨(0 : Int32), rfl, h, hW, hE⟩
    · rw [if_neg c2] at h
      refine wk_iconst C (v := 1) dJ1_canEncode_9a6ad_11 (by decide) ?_
      refine wk_goto C (tgt := 16) dJ1_canEncode_9a6ad_12 (by decide) ?_
      exact E _ _ _ _ _ _ (Nat.le_refl 0) (Nat.le_refl 0) dJ1_canEncode_9a6ad_16 rfl ⟨(1 : Int32), rfl, h, hW, hE⟩
def wvJ7_fill_d0a16 : List Cond := .code yJ7_fill_d0a16 cJ7_fill_d0a16 5 none :: (([] : List Cond) ++ (([]) ++ ([])))
theorem gdJ7_fill_d0a16 : ∀ w ∈ wvJ7_fill_d0a16, wkGd w := wkGdC rfl (wkGdA (wkGdL (by decide +kernel)) (wkGdA (fun _ h => absurd h List.not_mem_nil) (fun _ h => absurd h List.not_mem_nil)))
def rJ7_fill_d0a16_b0 (F : Nat) (rec : Nat → Nat → Int64 → Int32 → Int32 → wPS → (Unit → wPS → Prop) → Prop) (l0A : Nat) (l1J : Int64) (l3I : Int32) (l4I : Int32) (S : wPS) (Φ : (Unit → wPS → Prop)) : Prop :=
  if l4I ≤ l3I then (Φ () S) else (¬ (l3I < 0 ∨ S.len l0A ≤ (l3I).toNatClampNeg) ∧ wkLt (wuJ S l0A l3I l1J) fun S3 => wkLt (l3I + (1 : Int32)) fun x4 => rec 0 l0A l1J x4 l4I S3 Φ)
def rJ7_fill_d0a16_go (F : Nat) : Nat → Nat → Nat → Int64 → Int32 → Int32 → wPS → (Unit → wPS → Prop) → Prop
  | 0, _, _, _, _, _, _, _ => False
  | k' + 1, lab, l0A, l1J, l3I, l4I, S, Φ => if lab = 0 then rJ7_fill_d0a16_b0 F (rJ7_fill_d0a16_go F k') l0A l1J l3I l4I S Φ else False
def rJ7_fill_d0a16_s (F : Nat) (rec : Nat → Nat → Int64 → Int32 → Int32 → wPS → (Unit → wPS → Prop) → Prop) (l0A : Nat) (l1J : Int64) (S : wPS) (Φ : (Unit → wPS → Prop)) : Prop :=
  wkLt ((Int32.ofNat (S.len l0A))) fun x5 => rec 0 l0A l1J (0 : Int32) x5 S Φ
def rJ7_fill_d0a16 (F : Nat) (l0A : Nat) (l1J : Int64) (S : wPS) (Φ : (Unit → wPS → Prop)) : Prop := rJ7_fill_d0a16_s F (rJ7_fill_d0a16_go F F) l0A l1J S Φ
set_option maxHeartbeats 4000000 in
set_option maxRecDepth 100000 in
theorem tJ7_fill_d0a16_go {l : Launch} {X : wkX} {d F : Nat} {S0 : wPS} {Φ : (Unit → wPS → Prop)} (C : wkC X cJ7_fill_d0a16 RJ7 5 wvJ7_fill_d0a16) (hR : wkRm X d 0 0) (hd : 0 ≤ d) (E : wkEnd l X cJ7_fill_d0a16 5 none 0 0 (fun v' S'' => ∃ v : Unit, v' = none ∧ Φ v S'' ∧ wkWF S'' ∧ wkExt S0 S'')) : ∀ k' : Nat, (∀ (l0A : Nat) (l1J : Int64) (l3I : Int32) (l4I : Int32) (S : wPS), wkWF S → wkExt S0 S → wkIs S l0A 14 → rJ7_fill_d0a16_go F k' 0 l0A l1J l3I l4I S Φ → wkGo l X 5 0 0 6 S [some (.ref l0A), some (.long l1J), none, some (.int l3I), some (.int l4I)] []) := by
  intro k'
  induction k' with
  | zero => exact fun l0A l1J l3I l4I S hW hE hl0A h => h.elim
  | succ k' ih =>
    · intro l0A l1J l3I l4I S hW hE hl0A h
      have h : rJ7_fill_d0a16_b0 F (rJ7_fill_d0a16_go F k') l0A l1J l3I l4I S Φ := by
        rw [rJ7_fill_d0a16_go, if_pos (rfl : (0 : Nat) = 0)] at h
        exact h
      unfold rJ7_fill_d0a16_b0 at h
      refine wk_iload_n C dJ7_fill_d0a16_6 rfl rfl ?_
      refine wk_iload C dJ7_fill_d0a16_7 rfl ?_
      refine wk_icmp_ge C (tgt := 22) dJ7_fill_d0a16_9 (by decide) (fun c1 => ?_) (fun c1 => ?_)
      · rw [if_pos c1] at h
        exact E _ _ _ _ _ (Nat.le_refl 0) (Nat.le_refl 0) dJ7_fill_d0a16_22 ⟨(), rfl, h, hW, hE⟩
      · rw [if_neg c1] at h
        refine wk_aload_n C dJ7_fill_d0a16_12 rfl rfl ?_
        refine wk_iload_n C dJ7_fill_d0a16_13 rfl rfl ?_
        refine wk_lload_n C dJ7_fill_d0a16_14 rfl rfl ?_
        obtain ⟨i2, h⟩ := h
        obtain ⟨S3, eS3, h⟩ := wkLt_some h
        refine wk_last C hl0A.1 hl0A.2 i2 eS3.symm dJ7_fill_d0a16_15 ?_
        have hWS3 : wkWF S3 := by rw [eS3]; exact hW
        have hXS3 : wkExt S S3 := by rw [eS3]; exact wkExt.rf
        obtain ⟨x4, ex4, h⟩ := wkLt_some h
        refine wk_iinc C (lv' := [some (.ref l0A), some (.long l1J), none, some (.int x4), some (.int l4I)]) dJ7_fill_d0a16_16 rfl (by rw [ex4]; rfl) (by decide) rfl ?_
        refine wk_goto C (tgt := 6) dJ7_fill_d0a16_19 (by decide) ?_
        exact wk_forget (lv' := [some (.ref l0A), some (.long l1J), none, some (.int x4), some (.int l4I)]) (wkLs.le ⟨rfl, rfl, rfl, rfl, trivial⟩) (ih _ _ _ _ _ hWS3 (wkExt.tr hE hXS3) (hXS3 _ _ hl0A) h)
set_option maxHeartbeats 4000000 in
set_option maxRecDepth 100000 in
theorem tJ7_fill_d0a16 {l : Launch} {g : wkG} {F : Nat}  {S : wPS} {l0A : Nat} {l1J : Int64} {Φ : (Unit → wPS → Prop)} (hW : wkWF S) (hl0A : wkIs S l0A 14) (h : rJ7_fill_d0a16 F l0A l1J S Φ) : wkMet l g yJ7_fill_d0a16 wvJ7_fill_d0a16 0 0 0 [.ref l0A, .long l1J] S (fun v' S'' => ∃ v : Unit, v' = none ∧ Φ v S'' ∧ wkWF S'' ∧ wkExt S S'') := by
  refine wkMet_of (ret := none) (by decide) rfl (Nat.le_of_ble_eq_true rfl) (fun X hg C hR E => ?_)
  subst hg
  have hE : wkExt S S := wkExt.rf
  have hd : 0 ≤ 0 := Nat.le_refl _
  show wkGo l X 5 0 0 0 S [some (.ref l0A), some (.long l1J), none, none, none] []
  have ih := tJ7_fill_d0a16_go (F := F) C hR hd E F
  have h : rJ7_fill_d0a16_s F (rJ7_fill_d0a16_go F F) l0A l1J S Φ := h
  unfold rJ7_fill_d0a16_s at h
  refine wk_iconst C (v := 0) dJ7_fill_d0a16_0 (by decide) ?_
  refine wk_istore_n C (lv' := [some (.ref l0A), some (.long l1J), none, some (.int (0 : Int32)), none]) dJ7_fill_d0a16_1 rfl (by decide) rfl ?_
  refine wk_aload_n C dJ7_fill_d0a16_2 rfl rfl ?_
  refine wk_llen C hl0A.1 hl0A.2 rfl dJ7_fill_d0a16_3 ?_
  obtain ⟨x5, ex5, h⟩ := wkLt_some h
  refine wk_topi ex5 ?_
  refine wk_istore C (lv' := [some (.ref l0A), some (.long l1J), none, some (.int (0 : Int32)), some (.int x5)]) dJ7_fill_d0a16_4 (by decide) rfl ?_
  exact wk_forget (lv' := [some (.ref l0A), some (.long l1J), none, some (.int (0 : Int32)), some (.int x5)]) (wkLs.le ⟨rfl, rfl, rfl, rfl, trivial⟩) (ih _ _ _ _ _ hW hE hl0A h)
