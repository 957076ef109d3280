def wvX8_judgeProduct : List Cond := .code yX8_judgeProduct cX8_judgeProduct 3 (some .int) :: (([.fieldLink RX8 135 "Witnessworks$Row" "count" "I", .methodLink RX8 67 yX9_at, .instanceMethod yX9_at, .selects RX9 yX9_at yX9_at, .initialized RX9, .fieldLink RX8 74 "Witnessworks$Entry" "boundNow" "I"] : List Cond) ++ ((wsX90 ++ (wsX30)) ++ (wvX9_at)))
theorem huX8_judgeProduct_9 : ∀ w ∈ u_ws RX9 TX9 2, w ∈ wvX8_judgeProduct := fun w h => List.mem_cons_of_mem _ (List.mem_append_right _ (List.mem_append_left _ (List.mem_append_left _ h)))
theorem huX8_judgeProduct_3 : ∀ w ∈ u_ws RX3 TX3 17, w ∈ wvX8_judgeProduct := fun w h => List.mem_cons_of_mem _ (List.mem_append_right _ (List.mem_append_left _ (List.mem_append_right _ h)))
theorem hbX8_judgeProduct_X9_at : ∀ w ∈ wvX9_at, w ∈ wvX8_judgeProduct := fun w h => List.mem_cons_of_mem _ (List.mem_append_right _ (List.mem_append_right _ h))
theorem gdX8_judgeProduct : ∀ w ∈ wvX8_judgeProduct, wkGd w := wkGdC rfl (wkGdA (wkGdL (by decide +kernel)) (wkGdA (wkGdA gdX9 gdX3) gdX9_at))
def rX8_judgeProduct (F : Nat) (l0A : Nat) (l1A : Nat) (l2A : Nat) (S : wPS) (Φ : (Int32 → wPS → Prop)) : Prop :=
  if (gRow_count S l2A) = (2 : Int32) then (rX9_at F l2A (0 : Int32) S fun v2 S3 => if v2 < (2 : Int32) then (Φ (1 : Int32) S3) else (rX9_at F l2A (1 : Int32) S3 fun v8 S9 => if (2 : Int32) ≤ v8 then (rX9_at F l2A (0 : Int32) S9 fun v14 S15 => rX9_at F l2A (1 : Int32) S15 fun v19 S20 => if (lg_cmp ((Int32.toInt64 v14) * (Int32.toInt64 v19)) (Int32.toInt64 (gEntry_boundNow S20 l1A))) = 0 then (Φ (0 : Int32) S20) else (Φ (2 : Int32) S20)) else (Φ (1 : Int32) S9))) else (Φ (1 : Int32) S)
set_option maxHeartbeats 4000000 in
set_option maxRecDepth 100000 in
theorem tX8_judgeProduct {l : Launch} {g : wkG} {F : Nat}  {S : wPS} {l0A : Nat} {l1A : Nat} {l2A : Nat} {Φ : (Int32 → wPS → Prop)} (hW : wkWF S) (hl0A : wkIs S l0A 8) (hl1A : wkIs S l1A 3) (hl2A : wkIs S l2A 9) (h : rX8_judgeProduct F l0A l1A l2A S Φ) : wkMet l g yX8_judgeProduct wvX8_judgeProduct 1 0 0 [.ref l0A, .ref l1A, .ref l2A] S (fun v' S'' => ∃ v : Int32, v' = some (.int v) ∧ Φ v S'' ∧ wkWF S'' ∧ wkExt S S'') := by
  refine wkMet_of (ret := (some .int)) (by decide) rfl (Nat.le_of_ble_eq_true rfl) (fun X hg C hR E => ?_)
  subst hg
  have hE : wkExt S S := wkExt.rf
  have hd : 1 ≤ 1 := Nat.le_refl _
  show wkGo l X 3 0 0 0 S [some (.ref l0A), some (.ref l1A), some (.ref l2A)] []
  unfold rX8_judgeProduct at h
  refine wk_aload_n C dX8_judgeProduct_0 rfl rfl ?_
  refine wk_get C (v := .int (gRow_count S l2A)) huX8_judgeProduct_9 hl2A.1 (fun cy => wAt_9 cy _ hl2A.2) rfl 1 (by decide) (List.mem_of_getElem? (i := 1) rfl) rfl rfl dX8_judgeProduct_1 ?_
  refine wk_iconst C (v := 2) dX8_judgeProduct_4 (by decide) ?_
  refine wk_icmp_ne C (tgt := 26) dX8_judgeProduct_5 (by decide) (fun c1 => ?_) (fun c1 => ?_)
  · rw [if_neg c1] at h
    refine wk_iconst C (v := 1) dX8_judgeProduct_26 (by decide) ?_
    exact E _ _ _ _ _ _ (Nat.le_refl 0) (Nat.le_refl 0) dX8_judgeProduct_27 ⟨(1 : Int32), rfl, h, hW, hE⟩
  · rw [if_pos c1] at h
    refine wk_aload_n C dX8_judgeProduct_8 rfl rfl ?_
    refine wk_iconst C (v := 0) dX8_judgeProduct_9 (by decide) ?_
    refine wk_callV C hR (As := [.int (0 : Int32)]) (cnt := 1) (tX9_at (l := l) hW hl2A h) rfl (wkGoodV (List.mem_of_getElem? (i := 2) rfl) (List.mem_of_getElem? (i := 3) rfl) (List.mem_of_getElem? (i := 4) rfl) (List.mem_of_getElem? (i := 5) rfl) hbX8_judgeProduct_X9_at gdX9_at) (Nat.le_trans (by decide : 0 + 1 ≤ 1) hd) (by decide) hl2A.1 (fun cy => wAt_9 cy _ hl2A.2) rfl ⟨by decide, by decide, by decide +kernel⟩ rfl rfl (Nat.le_of_ble_eq_true rfl) (Nat.le_refl 0) (Nat.le_refl 0) dX8_judgeProduct_10 (fun v' S3 hp => ?_)
    obtain ⟨v2, rfl, h, hWS3, hXS3⟩ := hp
    refine wk_iconst C (v := 2) dX8_judgeProduct_13 (by decide) ?_
    refine wk_icmp_lt C (tgt := 26) dX8_judgeProduct_14 (by decide) (fun c7 => ?_) (fun c7 => ?_)
    · rw [if_pos c7] at h
      refine wk_iconst C (v := 1) dX8_judgeProduct_26 (by decide) ?_
      exact E _ _ _ _ _ _ (Nat.le_refl 0) (Nat.le_refl 0) dX8_judgeProduct_27 ⟨(1 : Int32), rfl, h, hWS3, (wkExt.tr hE hXS3)⟩
    · rw [if_neg c7] at h
      refine wk_aload_n C dX8_judgeProduct_17 rfl rfl ?_
      refine wk_iconst C (v := 1) dX8_judgeProduct_18 (by decide) ?_
      refine wk_callV C hR (As := [.int (1 : Int32)]) (cnt := 1) (tX9_at (l := l) hWS3 (hXS3 _ _ hl2A) h) rfl (wkGoodV (List.mem_of_getElem? (i := 2) rfl) (List.mem_of_getElem? (i := 3) rfl) (List.mem_of_getElem? (i := 4) rfl) (List.mem_of_getElem? (i := 5) rfl) hbX8_judgeProduct_X9_at gdX9_at) (Nat.le_trans (by decide : 0 + 1 ≤ 1) hd) (by decide) (hXS3 _ _ hl2A).1 (fun cy => wAt_9 cy _ (hXS3 _ _ hl2A).2) rfl ⟨by decide, by decide, by decide +kernel⟩ rfl rfl (Nat.le_of_ble_eq_true rfl) (Nat.le_refl 0) (Nat.le_refl 0) dX8_judgeProduct_19 (fun v' S9 hp => ?_)
      obtain ⟨v8, rfl, h, hWS9, hXS9⟩ := hp
      refine wk_iconst C (v := 2) dX8_judgeProduct_22 (by decide) ?_
      refine wk_icmp_ge C (tgt := 28) dX8_judgeProduct_23 (by decide) (fun c13 => ?_) (fun c13 => ?_)
      · rw [if_pos c13] at h
        refine wk_aload_n C dX8_judgeProduct_28 rfl rfl ?_
        refine wk_iconst C (v := 0) dX8_judgeProduct_29 (by decide) ?_
        refine wk_callV C hR (As := [.int (0 : Int32)]) (cnt := 1) (tX9_at (l := l) hWS9 (hXS9 _ _ (hXS3 _ _ hl2A)) h) rfl (wkGoodV (List.mem_of_getElem? (i := 2) rfl) (List.mem_of_getElem? (i := 3) rfl) (List.mem_of_getElem? (i := 4) rfl) (List.mem_of_getElem? (i := 5) rfl) hbX8_judgeProduct_X9_at gdX9_at) (Nat.le_trans (by decide : 0 + 1 ≤ 1) hd) (by decide) (hXS9 _ _ (hXS3 _ _ hl2A)).1 (fun cy => wAt_9 cy _ (hXS9 _ _ (hXS3 _ _ hl2A)).2) rfl ⟨by decide, by decide, by decide +kernel⟩ rfl rfl (Nat.le_of_ble_eq_true rfl) (Nat.le_refl 0) (Nat.le_refl 0) dX8_judgeProduct_30 (fun v' S15 hp => ?_)
        obtain ⟨v14, rfl, h, hWS15, hXS15⟩ := hp
        refine wk_i2l C dX8_judgeProduct_33 rfl ?_
        refine wk_aload_n C dX8_judgeProduct_34 rfl rfl ?_
        refine wk_iconst C (v := 1) dX8_judgeProduct_35 (by decide) ?_
        refine wk_callV C hR (As := [.int (1 : Int32)]) (cnt := 1) (tX9_at (l := l) hWS15 (hXS15 _ _ (hXS9 _ _ (hXS3 _ _ hl2A))) h) rfl (wkGoodV (List.mem_of_getElem? (i := 2) rfl) (List.mem_of_getElem? (i := 3) rfl) (List.mem_of_getElem? (i := 4) rfl) (List.mem_of_getElem? (i := 5) rfl) hbX8_judgeProduct_X9_at gdX9_at) (Nat.le_trans (by decide : 0 + 1 ≤ 1) hd) (by decide) (hXS15 _ _ (hXS9 _ _ (hXS3 _ _ hl2A))).1 (fun cy => wAt_9 cy _ (hXS15 _ _ (hXS9 _ _ (hXS3 _ _ hl2A))).2) rfl ⟨by decide, by decide, by decide +kernel⟩ rfl rfl (Nat.le_of_ble_eq_true rfl) (Nat.le_refl 0) (Nat.le_refl 0) dX8_judgeProduct_36 (fun v' S20 hp => ?_)
        obtain ⟨v19, rfl, h, hWS20, hXS20⟩ := hp
        refine wk_i2l C dX8_judgeProduct_39 rfl ?_
        refine wk_lmul C dX8_judgeProduct_40 rfl ?_
        refine wk_aload_n C dX8_judgeProduct_41 rfl rfl ?_
        refine wk_get C (v := .int (gEntry_boundNow S20 l1A)) huX8_judgeProduct_3 (hXS20 _ _ (hXS15 _ _ (hXS9 _ _ (hXS3 _ _ hl1A)))).1 (fun cy => wAt_3 cy _ (hXS20 _ _ (hXS15 _ _ (hXS9 _ _ (hXS3 _ _ hl1A)))).2) rfl 8 (by decide) (List.mem_of_getElem? (i := 6) rfl) rfl rfl dX8_judgeProduct_42 ?_
        refine wk_i2l C dX8_judgeProduct_45 rfl ?_
        refine wk_lcmp C dX8_judgeProduct_46 rfl ?_
        refine wk_if_ne C (tgt := 54) dX8_judgeProduct_47 (by decide) (fun c24 => ?_) (fun c24 => ?_)
        · rw [if_neg c24] at h
          refine wk_iconst C (v := 2) dX8_judgeProduct_54 (by decide) ?_
          exact E _ _ _ _ _ _ (Nat.le_refl 0) (Nat.le_refl 0) dX8_judgeProduct_55 ⟨(2 : Int32), rfl, h, hWS20, (wkExt.tr (wkExt.tr (wkExt.tr (wkExt.tr hE hXS3) hXS9) hXS15) hXS20)⟩
        · rw [if_pos c24] at h
          refine wk_iconst C (v := 0) dX8_judgeProduct_50 (by decide) ?_
          refine wk_goto C (tgt := 55) dX8_judgeProduct_51 (by decide) ?_
          exact E _ _ _ _ _ _ (Nat.le_refl 0) (Nat.le_refl 0) dX8_judgeProduct_55 ⟨(0 : Int32), rfl, h, hWS20, (wkExt.tr (wkExt.tr (wkExt.tr (wkExt.tr hE hXS3) hXS9) hXS15) hXS20)⟩
      · rw [if_neg c13] at h
        refine wk_iconst C (v := 1) dX8_judgeProduct_26 (by decide) ?_
        exact E _ _ _ _ _ _ (Nat.le_refl 0) (Nat.le_refl 0) dX8_judgeProduct_27 ⟨(1 : Int32), rfl, h, hWS9, (wkExt.tr (wkExt.tr hE hXS3) hXS9)⟩
def wvX8_divide : List Cond := .code yX8_divide cX8_divide 11 none :: (([.fieldLink RX8 30 "Witnessworks$Numbers" "left" "[J", .fieldLink RX8 33 "Witnessworks$Numbers" "often" "[J", .methodLink RX8 108 Lib.MathLoose.abs_long.x, .static Lib.MathLoose.abs_long.x, .initialized "java/lang/Math", .code Lib.MathLoose.abs_long.x Lib.MathLoose.abs_long.code 2 (some .long), .methodLink RX8 204 arraycopyName, .native arraycopyName, .static arraycopyName, .initialized "java/lang/System", .methodLink RX8 83 yJ7_fill_d0a16, .static yJ7_fill_d0a16, .initialized RJ7] : List Cond) ++ ((wsX80) ++ (wvJ7_fill_d0a16)))
theorem huX8_divide_8 : ∀ w ∈ u_ws RX8 TX8 9, w ∈ wvX8_divide := fun w h => List.mem_cons_of_mem _ (List.mem_append_right _ (List.mem_append_left _ h))
theorem hbX8_divide_J7_fill_d0a16 : ∀ w ∈ wvJ7_fill_d0a16, w ∈ wvX8_divide := fun w h => List.mem_cons_of_mem _ (List.mem_append_right _ (List.mem_append_right _ h))
theorem gdX8_divide : ∀ w ∈ wvX8_divide, wkGd w := wkGdC rfl (wkGdA (wkGdL (by decide +kernel)) (wkGdA gdX8 gdJ7_fill_d0a16))
def rX8_divide_b0 (F : Nat) (rec : Nat → Nat → Int32 → Nat → Int32 → Int64 → Int32 → Int32 → Int64 → wPS → (Unit → wPS → Prop) → Prop) (l0A : Nat) (l2A : Nat) (l4I : Int32) (l5J : Int64) (l7I : Int32) (S : wPS) (Φ : (Unit → wPS → Prop)) : Prop :=
  if l7I < 0 then (Φ () S) else (if (lg_cmp l5J (0 : Int64)) = 0 then (Φ () S) else (rec 1 l0A 0 l2A l4I l5J l7I (0 : Int32) 0 S Φ))
def rX8_divide_b1 (F : Nat) (rec : Nat → Nat → Int32 → Nat → Int32 → Int64 → Int32 → Int32 → Int64 → wPS → (Unit → wPS → Prop) → Prop) (l0A : Nat) (l2A : Nat) (l4I : Int32) (l5J : Int64) (l7I : Int32) (l8I : Int32) (S : wPS) (Φ : (Unit → wPS → Prop)) : Prop :=
  if (4 : Int32) ≤ l8I then (¬ ((l7I + l4I) < 0 ∨ S.len (wkAd (gNumbers_left S l0A)) ≤ ((l7I + l4I)).toNatClampNeg) ∧ ¬ l5J = 0 ∧ wkLt (((S.rJ (wkAd (gNumbers_left S l0A)) ((l7I + l4I)).toNatClampNeg) / l5J)) fun x6 => ¬ (l7I < 0 ∨ S.len (wkAd (gNumbers_often S l0A)) ≤ (l7I).toNatClampNeg) ∧ wkLt (wuJ S (wkAd (gNumbers_often S l0A)) l7I x6) fun S8 => rec 2 l0A (0 : Int32) l2A l4I l5J l7I 0 x6 S8 Φ) else (¬ (l8I < 0 ∨ S.len (wkAd (gNumbers_left S l0A)) ≤ (l8I).toNatClampNeg) ∧ ¬ (l8I < 0 ∨ S.len (wkAd (gNumbers_left S l0A)) ≤ (l8I).toNatClampNeg) ∧ wkLt (wuJ S (wkAd (gNumbers_left S l0A)) l8I ((S.rJ (wkAd (gNumbers_left S l0A)) (l8I).toNatClampNeg) * (if 0 < l5J then l5J else -l5J))) fun S11 => ¬ (l8I < 0 ∨ S11.len (wkAd (gNumbers_often S11 l0A)) ≤ (l8I).toNatClampNeg) ∧ ¬ (l8I < 0 ∨ S11.len (wkAd (gNumbers_often S11 l0A)) ≤ (l8I).toNatClampNeg) ∧ wkLt (wuJ S11 (wkAd (gNumbers_often S11 l0A)) l8I ((S11.rJ (wkAd (gNumbers_often S11 l0A)) (l8I).toNatClampNeg) * (if 0 < l5J then l5J else -l5J))) fun S14 => wkLt (l8I + (1 : Int32)) fun x15 => rec 1 l0A 0 l2A l4I l5J l7I x15 0 S14 Φ)
def rX8_divide_b2 (F : Nat) (rec : Nat → Nat → Int32 → Nat → Int32 → Int64 → Int32 → Int32 → Int64 → wPS → (Unit → wPS → Prop) → Prop) (l0A : Nat) (l2A : Nat) (l4I : Int32) (l5J : Int64) (l7I : Int32) (l8J : Int64) (l10I : Int32) (S : wPS) (Φ : (Unit → wPS → Prop)) : Prop :=
  if l4I < l10I then (wkLt (l7I + (-1 : Int32)) fun x17 => rec 0 l0A 0 l2A l4I l5J x17 0 0 S Φ) else (¬ ((l7I + l10I) < 0 ∨ S.len (wkAd (gNumbers_left S l0A)) ≤ ((l7I + l10I)).toNatClampNeg) ∧ ¬ (l10I < 0 ∨ S.len l2A ≤ (l10I).toNatClampNeg) ∧ ¬ ((l7I + l10I) < 0 ∨ S.len (wkAd (gNumbers_left S l0A)) ≤ ((l7I + l10I)).toNatClampNeg) ∧ wkLt (wuJ S (wkAd (gNumbers_left S l0A)) (l7I + l10I) ((S.rJ (wkAd (gNumbers_left S l0A)) ((l7I + l10I)).toNatClampNeg) - (l8J * (S.rJ l2A (l10I).toNatClampNeg)))) fun S21 => wkLt (l10I + (1 : Int32)) fun x22 => rec 2 l0A x22 l2A l4I l5J l7I 0 l8J S21 Φ)
def rX8_divide_go (F : Nat) : Nat → Nat → Nat → Int32 → Nat → Int32 → Int64 → Int32 → Int32 → Int64 → wPS → (Unit → wPS → Prop) → Prop
  | 0, _, _, _, _, _, _, _, _, _, _, _ => False
  | k' + 1, lab, l0A, l10I, l2A, l4I, l5J, l7I, l8I, l8J, S, Φ => if lab = 0 then rX8_divide_b0 F (rX8_divide_go F k') l0A l2A l4I l5J l7I S Φ else if lab = 1 then rX8_divide_b1 F (rX8_divide_go F k') l0A l2A l4I l5J l7I l8I S Φ else if lab = 2 then rX8_divide_b2 F (rX8_divide_go F k') l0A l2A l4I l5J l7I l8J l10I S Φ else False
def rX8_divide_s (F : Nat) (rec : Nat → Nat → Int32 → Nat → Int32 → Int64 → Int32 → Int32 → Int64 → wPS → (Unit → wPS → Prop) → Prop) (l0A : Nat) (l1A : Nat) (l2A : Nat) (l3I : Int32) (l4I : Int32) (S : wPS) (Φ : (Unit → wPS → Prop)) : Prop :=
  ¬ (0 : Int32) < 0 ∧ ¬ (0 : Int32) < 0 ∧ ¬ (4 : Int32) < 0 ∧ ((0 : Int32)).toNatClampNeg + ((4 : Int32)).toNatClampNeg ≤ S.len l1A ∧ ((0 : Int32)).toNatClampNeg + ((4 : Int32)).toNatClampNeg ≤ S.len (wkAd (gNumbers_left S l0A)) ∧ wkLt (wuRJ S (wkAd (gNumbers_left S l0A)) (va_cpy (S.rJ l1A) (S.rJ (wkAd (gNumbers_left S l0A))) ((0 : Int32)).toNatClampNeg ((0 : Int32)).toNatClampNeg ((4 : Int32)).toNatClampNeg)) fun S24 => rJ7_fill_d0a16 F (wkAd (gNumbers_often S24 l0A)) (0 : Int64) S24 fun v25 S26 => ¬ (l4I < 0 ∨ S26.len l2A ≤ (l4I).toNatClampNeg) ∧ wkLt ((S26.rJ l2A (l4I).toNatClampNeg)) fun x31 => wkLt ((l3I - l4I)) fun x32 => rec 0 l0A 0 l2A l4I x31 x32 0 0 S26 Φ
def rX8_divide (F : Nat) (l0A : Nat) (l1A : Nat) (l2A : Nat) (l3I : Int32) (l4I : Int32) (S : wPS) (Φ : (Unit → wPS → Prop)) : Prop := rX8_divide_s F (rX8_divide_go F F) l0A l1A l2A l3I l4I S Φ
set_option maxHeartbeats 4000000 in
set_option maxRecDepth 100000 in
theorem tX8_divide_go {l : Launch} {X : wkX} {d F : Nat} {S0 : wPS} {Φ : (Unit → wPS → Prop)} (C : wkC X cX8_divide RX8 11 wvX8_divide) (hR : wkRm X d 0 0) (hd : 1 ≤ d) (E : wkEnd l X cX8_divide 11 none 0 0 (fun v' S'' => ∃ v : Unit, v' = none ∧ Φ v S'' ∧ wkWF S'' ∧ wkExt S0 S'')) : ∀ k' : Nat, (∀ (l0A : Nat) (l2A : Nat) (l4I : Int32) (l5J : Int64) (l7I : Int32) (S : wPS), wkWF S → wkExt S0 S → wkIs S l0A 8 → wkIs S l2A 14 → rX8_divide_go F k' 0 l0A 0 l2A l4I l5J l7I 0 0 S Φ → wkGo l X 11 0 0 31 S [some (.ref l0A), none, some (.ref l2A), none, some (.int l4I), some (.long l5J), none, some (.int l7I), none, none, none] []) ∧ (∀ (l0A : Nat) (l2A : Nat) (l4I : Int32) (l5J : Int64) (l7I : Int32) (l8I : Int32) (S : wPS), wkWF S → wkExt S0 S → wkIs S l0A 8 → wkIs S l2A 14 → rX8_divide_go F k' 1 l0A 0 l2A l4I l5J l7I l8I 0 S Φ → wkGo l X 11 0 0 46 S [some (.ref l0A), none, some (.ref l2A), none, some (.int l4I), some (.long l5J), none, some (.int l7I), some (.int l8I), none, none] []) ∧ (∀ (l0A : Nat) (l2A : Nat) (l4I : Int32) (l5J : Int64) (l7I : Int32) (l8J : Int64) (l10I : Int32) (S : wPS), wkWF S → wkExt S0 S → wkIs S l0A 8 → wkIs S l2A 14 → rX8_divide_go F k' 2 l0A l10I l2A l4I l5J l7I 0 l8J S Φ → wkGo l X 11 0 0 115 S [some (.ref l0A), none, some (.ref l2A), none, some (.int l4I), some (.long l5J), none, some (.int l7I), some (.long l8J), none, some (.int l10I)] []) := by
  intro k'
  induction k' with
  | zero => exact ⟨fun l0A l2A l4I l5J l7I S hW hE hl0A hl2A h => h.elim, fun l0A l2A l4I l5J l7I l8I S hW hE hl0A hl2A h => h.elim, fun l0A l2A l4I l5J l7I l8J l10I S hW hE hl0A hl2A h => h.elim⟩
  | succ k' ih =>
    refine ⟨?_, ?_, ?_⟩
    · intro l0A l2A l4I l5J l7I S hW hE hl0A hl2A h
      have h : rX8_divide_b0 F (rX8_divide_go F k') l0A l2A l4I l5J l7I S Φ := by
        rw [rX8_divide_go, if_pos (rfl : (0 : Nat) = 0)] at h
        exact h
      unfold rX8_divide_b0 at h
      refine wk_iload C dX8_divide_31 rfl ?_
      refine wk_if_lt C (tgt := 154) dX8_divide_33 (by decide) (fun c1 => ?_) (fun c1 => ?_)
      · rw [if_pos c1] at h
        exact E _ _ _ _ _ (Nat.le_refl 0) (Nat.le_refl 0) dX8_divide_154 ⟨(), rfl, h, hW, hE⟩
      · rw [if_neg c1] at h
        refine wk_lload C dX8_divide_36 rfl ?_
        refine wk_lconst C (v := 0) dX8_divide_38 (by decide) ?_
        refine wk_lcmp C dX8_divide_39 rfl ?_
        refine wk_if_eq C (tgt := 154) dX8_divide_40 (by decide) (fun c2 => ?_) (fun c2 => ?_)
        · rw [if_pos c2] at h
          exact E _ _ _ _ _ (Nat.le_refl 0) (Nat.le_refl 0) dX8_divide_154 ⟨(), rfl, h, hW, hE⟩
        · rw [if_neg c2] at h
          refine wk_iconst C (v := 0) dX8_divide_43 (by decide) ?_
          refine wk_istore C (lv' := [some (.ref l0A), none, some (.ref l2A), none, some (.int l4I), some (.long l5J), none, some (.int l7I), some (.int (0 : Int32)), none, none]) dX8_divide_44 (by decide) rfl ?_
          exact wk_forget (lv' := [some (.ref l0A), none, some (.ref l2A), none, some (.int l4I), some (.long l5J), none, some (.int l7I), some (.int (0 : Int32)), none, none]) (wkLs.le ⟨rfl, rfl, rfl, rfl, rfl, rfl, trivial⟩) (ih.2.1 _ _ _ _ _ _ _ hW hE hl0A hl2A h)
    · intro l0A l2A l4I l5J l7I l8I S hW hE hl0A hl2A h
      have h : rX8_divide_b1 F (rX8_divide_go F k') l0A l2A l4I l5J l7I l8I S Φ := by
        rw [rX8_divide_go, if_neg (show ¬ (1 : Nat) = 0 by decide), if_pos (rfl : (1 : Nat) = 1)] at h
        exact h
      unfold rX8_divide_b1 at h
      refine wk_iload C dX8_divide_46 rfl ?_
      refine wk_iconst C (v := 4) dX8_divide_48 (by decide) ?_
      refine wk_icmp_ge C (tgt := 88) dX8_divide_49 (by decide) (fun c3 => ?_) (fun c3 => ?_)
      · rw [if_pos c3] at h
        refine wk_aload_n C dX8_divide_88 rfl rfl ?_
        refine wk_get C huX8_divide_8 hl0A.1 (fun cy => wAt_8 cy _ hl0A.2) rfl 6 (by decide) (List.mem_of_getElem? (i := 1) rfl) rfl (congrArg some (congrArg va_rf (wf_Numbers_left hW hl0A).1)) dX8_divide_89 ?_
        refine wk_iload C dX8_divide_92 rfl ?_
        refine wk_iload C dX8_divide_94 rfl ?_
        refine wk_iadd C dX8_divide_96 rfl ?_
        obtain ⟨i4, h⟩ := h
        refine wk_lald C (wf_Numbers_left hW hl0A).2.1 (wf_Numbers_left hW hl0A).2.2 i4 rfl dX8_divide_97 ?_
        refine wk_lload C dX8_divide_98 rfl ?_
        obtain ⟨z5, h⟩ := h
        refine wk_ldiv C dX8_divide_100 z5 rfl ?_
        obtain ⟨x6, ex6, h⟩ := wkLt_some h
        refine wk_topl ex6 ?_
        refine wk_lstore C (lv' := [some (.ref l0A), none, some (.ref l2A), none, some (.int l4I), some (.long l5J), none, some (.int l7I), some (.long x6), none, none]) dX8_divide_101 (by decide) rfl ?_
        refine wk_aload_n C dX8_divide_103 rfl rfl ?_
        refine wk_get C huX8_divide_8 hl0A.1 (fun cy => wAt_8 cy _ hl0A.2) rfl 7 (by decide) (List.mem_of_getElem? (i := 2) rfl) rfl (congrArg some (congrArg va_rf (wf_Numbers_often hW hl0A).1)) dX8_divide_104 ?_
        refine wk_iload C dX8_divide_107 rfl ?_
        refine wk_lload C dX8_divide_109 rfl ?_
        obtain ⟨i7, h⟩ := h
        obtain ⟨S8, eS8, h⟩ := wkLt_some h
        refine wk_last C (wf_Numbers_often hW hl0A).2.1 (wf_Numbers_often hW hl0A).2.2 i7 eS8.symm dX8_divide_111 ?_
        have hWS8 : wkWF S8 := by rw [eS8]; exact hW
        have hXS8 : wkExt S S8 := by rw [eS8]; exact wkExt.rf
        refine wk_iconst C (v := 0) dX8_divide_112 (by decide) ?_
        refine wk_istore C (lv' := [some (.ref l0A), none, some (.ref l2A), none, some (.int l4I), some (.long l5J), none, some (.int l7I), some (.long x6), none, some (.int (0 : Int32))]) dX8_divide_113 (by decide) rfl ?_
        exact wk_forget (lv' := [some (.ref l0A), none, some (.ref l2A), none, some (.int l4I), some (.long l5J), none, some (.int l7I), some (.long x6), none, some (.int (0 : Int32))]) (wkLs.le ⟨rfl, rfl, rfl, rfl, rfl, rfl, rfl, trivial⟩) (ih.2.2 _ _ _ _ _ _ _ _ hWS8 (wkExt.tr hE hXS8) (hXS8 _ _ hl0A) (hXS8 _ _ hl2A) h)
      · rw [if_neg c3] at h
        refine wk_aload_n C dX8_divide_52 rfl rfl ?_
        refine wk_get C huX8_divide_8 hl0A.1 (fun cy => wAt_8 cy _ hl0A.2) rfl 6 (by decide) (List.mem_of_getElem? (i := 1) rfl) rfl (congrArg some (congrArg va_rf (wf_Numbers_left hW hl0A).1)) dX8_divide_53 ?_
        refine wk_iload C dX8_divide_56 rfl ?_
        refine wk_dup2 C dX8_divide_58 rfl rfl ?_
        obtain ⟨i9, h⟩ := h
        refine wk_lald C (wf_Numbers_left hW hl0A).2.1 (wf_Numbers_left hW hl0A).2.2 i9 rfl dX8_divide_59 ?_
        refine wk_lload C dX8_divide_60 rfl ?_
        refine wk_mabs_long C hR (List.mem_of_getElem? (i := 3) rfl) (List.mem_of_getElem? (i := 4) rfl) (List.mem_of_getElem? (i := 5) rfl) (List.mem_of_getElem? (i := 6) rfl) (Nat.le_trans (by decide) hd) (Nat.le_refl 0) (Nat.le_refl 0) (Nat.le_of_ble_eq_true rfl) rfl dX8_divide_62 ?_
        refine wk_lmul C dX8_divide_65 rfl ?_
        obtain ⟨i10, h⟩ := h
        obtain ⟨S11, eS11, h⟩ := wkLt_some h
        refine wk_last C (wf_Numbers_left hW hl0A).2.1 (wf_Numbers_left hW hl0A).2.2 i10 eS11.symm dX8_divide_66 ?_
        have hWS11 : wkWF S11 := by rw [eS11]; exact hW
        have hXS11 : wkExt S S11 := by rw [eS11]; exact wkExt.rf
        refine wk_aload_n C dX8_divide_67 rfl rfl ?_
        refine wk_get C huX8_divide_8 (hXS11 _ _ hl0A).1 (fun cy => wAt_8 cy _ (hXS11 _ _ hl0A).2) rfl 7 (by decide) (List.mem_of_getElem? (i := 2) rfl) rfl (congrArg some (congrArg va_rf (wf_Numbers_often hWS11 (hXS11 _ _ hl0A)).1)) dX8_divide_68 ?_
        refine wk_iload C dX8_divide_71 rfl ?_
        refine wk_dup2 C dX8_divide_73 rfl rfl ?_
        obtain ⟨i12, h⟩ := h
        refine wk_lald C (wf_Numbers_often hWS11 (hXS11 _ _ hl0A)).2.1 (wf_Numbers_often hWS11 (hXS11 _ _ hl0A)).2.2 i12 rfl dX8_divide_74 ?_
        refine wk_lload C dX8_divide_75 rfl ?_
        refine wk_mabs_long C hR (List.mem_of_getElem? (i := 3) rfl) (List.mem_of_getElem? (i := 4) rfl) (List.mem_of_getElem? (i := 5) rfl) (List.mem_of_getElem? (i := 6) rfl) (Nat.le_trans (by decide) hd) (Nat.le_refl 0) (Nat.le_refl 0) (Nat.le_of_ble_eq_true rfl) rfl dX8_divide_77 ?_
        refine wk_lmul C dX8_divide_80 rfl ?_
        obtain ⟨i13, h⟩ := h
        obtain ⟨S14, eS14, h⟩ := wkLt_some h
        refine wk_last C (wf_Numbers_often hWS11 (hXS11 _ _ hl0A)).2.1 (wf_Numbers_often hWS11 (hXS11 _ _ hl0A)).2.2 i13 eS14.symm dX8_divide_81 ?_
        have hWS14 : wkWF S14 := by rw [eS14]; exact hWS11
        have hXS14 : wkExt S11 S14 := by rw [eS14]; exact wkExt.rf
        obtain ⟨x15, ex15, h⟩ := wkLt_some h
        refine wk_iinc C (lv' := [some (.ref l0A), none, some (.ref l2A), none, some (.int l4I), some (.long l5J), none, some (.int l7I), some (.int x15), none, none]) dX8_divide_82 rfl (by rw [ex15]; rfl) (by decide) rfl ?_
        refine wk_goto C (tgt := 46) dX8_divide_85 (by decide) ?_
        exact wk_forget (lv' := [some (.ref l0A), none, some (.ref l2A), none, some (.int l4I), some (.long l5J), none, some (.int l7I), some (.int x15), none, none]) (wkLs.le ⟨rfl, rfl, rfl, rfl, rfl, rfl, trivial⟩) (ih.2.1 _ _ _ _ _ _ _ hWS14 (wkExt.tr (wkExt.tr hE hXS11) hXS14) (hXS14 _ _ (hXS11 _ _ hl0A)) (hXS14 _ _ (hXS11 _ _ hl2A)) h)
    · intro l0A l2A l4I l5J l7I l8J l10I S hW hE hl0A hl2A h
      have h : rX8_divide_b2 F (rX8_divide_go F k') l0A l2A l4I l5J l7I l8J l10I S Φ := by
        rw [rX8_divide_go, if_neg (show ¬ (2 : Nat) = 0 by decide), if_neg (show ¬ (2 : Nat) = 1 by decide), if_pos (rfl : (2 : Nat) = 2)] at h
        exact h
      unfold rX8_divide_b2 at h
      refine wk_iload C dX8_divide_115 rfl ?_
      refine wk_iload C dX8_divide_117 rfl ?_
      refine wk_icmp_gt C (tgt := 148) dX8_divide_119 (by decide) (fun c16 => ?_) (fun c16 => ?_)
      · rw [if_pos c16] at h
        obtain ⟨x17, ex17, h⟩ := wkLt_some h
        refine wk_iinc C (lv' := [some (.ref l0A), none, some (.ref l2A), none, some (.int l4I), some (.long l5J), none, some (.int x17), some (.long l8J), none, some (.int l10I)]) dX8_divide_148 rfl (by rw [ex17]; rfl) (by decide) rfl ?_
        refine wk_goto C (tgt := 31) dX8_divide_151 (by decide) ?_
        exact wk_forget (lv' := [some (.ref l0A), none, some (.ref l2A), none, some (.int l4I), some (.long l5J), none, some (.int x17), none, none, none]) (wkLs.le ⟨rfl, rfl, rfl, rfl, rfl, trivial⟩) (ih.1 _ _ _ _ _ _ hW hE hl0A hl2A h)
      · rw [if_neg c16] at h
        refine wk_aload_n C dX8_divide_122 rfl rfl ?_
        refine wk_get C huX8_divide_8 hl0A.1 (fun cy => wAt_8 cy _ hl0A.2) rfl 6 (by decide) (List.mem_of_getElem? (i := 1) rfl) rfl (congrArg some (congrArg va_rf (wf_Numbers_left hW hl0A).1)) dX8_divide_123 ?_
        refine wk_iload C dX8_divide_126 rfl ?_
        refine wk_iload C dX8_divide_128 rfl ?_
        refine wk_iadd C dX8_divide_130 rfl ?_
        refine wk_dup2 C dX8_divide_131 rfl rfl ?_
        obtain ⟨i18, h⟩ := h
        refine wk_lald C (wf_Numbers_left hW hl0A).2.1 (wf_Numbers_left hW hl0A).2.2 i18 rfl dX8_divide_132 ?_
        refine wk_lload C dX8_divide_133 rfl ?_
        refine wk_aload_n C dX8_divide_135 rfl rfl ?_
        refine wk_iload C dX8_divide_136 rfl ?_
        obtain ⟨i19, h⟩ := h
        refine wk_lald C hl2A.1 hl2A.2 i19 rfl dX8_divide_138 ?_
        refine wk_lmul C dX8_divide_139 rfl ?_
        refine wk_lsub C dX8_divide_140 rfl ?_
        obtain ⟨i20, h⟩ := h
        obtain ⟨S21, eS21, h⟩ := wkLt_some h
        refine wk_last C (wf_Numbers_left hW hl0A).2.1 (wf_Numbers_left hW hl0A).2.2 i20 eS21.symm dX8_divide_141 ?_
        have hWS21 : wkWF S21 := by rw [eS21]; exact hW
        have hXS21 : wkExt S S21 := by rw [eS21]; exact wkExt.rf
        obtain ⟨x22, ex22, h⟩ := wkLt_some h
        refine wk_iinc C (lv' := [some (.ref l0A), none, some (.ref l2A), none, some (.int l4I), some (.long l5J), none, some (.int l7I), some (.long l8J), none, some (.int x22)]) dX8_divide_142 rfl (by rw [ex22]; rfl) (by decide) rfl ?_
        refine wk_goto C (tgt := 115) dX8_divide_145 (by decide) ?_
        exact wk_forget (lv' := [some (.ref l0A), none, some (.ref l2A), none, some (.int l4I), some (.long l5J), none, some (.int l7I), some (.long l8J), none, some (.int x22)]) (wkLs.le ⟨rfl, rfl, rfl, rfl, rfl, rfl, rfl, trivial⟩) (ih.2.2 _ _ _ _ _ _ _ _ hWS21 (wkExt.tr hE hXS21) (hXS21 _ _ hl0A) (hXS21 _ _ hl2A) h)
set_option maxHeartbeats 4000000 in
set_option maxRecDepth 100000 in
theorem tX8_divide {l : Launch} {g : wkG} {F : Nat}  {S : wPS} {l0A : Nat} {l1A : Nat} {l2A : Nat} {l3I : Int32} {l4I : Int32} {Φ : (Unit → wPS → Prop)} (hW : wkWF S) (hl0A : wkIs S l0A 8) (hl1A : wkIs S l1A 14) (hl2A : wkIs S l2A 14) (h : rX8_divide F l0A l1A l2A l3I l4I S Φ) : wkMet l g yX8_divide wvX8_divide 1 0 0 [.ref l0A, .ref l1A, .ref l2A, .int l3I, .int l4I] S (fun v' S'' => ∃ v : Unit, v' = none ∧ Φ v S'' ∧ wkWF S'' ∧ wkExt S S'') := by
  refine wkMet_of (ret := none) (by decide) rfl (Nat.le_of_ble_eq_true rfl) (fun X hg C hR E => ?_)
  subst hg
  have hE : wkExt S S := wkExt.rf
  have hd : 1 ≤ 1 := Nat.le_refl _
  show wkGo l X 11 0 0 0 S [some (.ref l0A), some (.ref l1A), some (.ref l2A), some (.int l3I), some (.int l4I), none, none, none, none, none, none] []
  have ih := tX8_divide_go (F := F) C hR hd E F
  have h : rX8_divide_s F (rX8_divide_go F F) l0A l1A l2A l3I l4I S Φ := h
  unfold rX8_divide_s at h
  refine wk_aload_n C dX8_divide_0 rfl rfl ?_
  refine wk_iconst C (v := 0) dX8_divide_1 (by decide) ?_
  refine wk_aload_n C dX8_divide_2 rfl rfl ?_
  refine wk_get C huX8_divide_8 hl0A.1 (fun cy => wAt_8 cy _ hl0A.2) rfl 6 (by decide) (List.mem_of_getElem? (i := 1) rfl) rfl (congrArg some (congrArg va_rf (wf_Numbers_left hW hl0A).1)) dX8_divide_3 ?_
  refine wk_iconst C (v := 0) dX8_divide_6 (by decide) ?_
  refine wk_iconst C (v := 4) dX8_divide_7 (by decide) ?_
  obtain ⟨y23a, y23b, y23c, y23d, y23e, h⟩ := h
  obtain ⟨S24, eS24, h⟩ := wkLt_some h
  refine wk_copyJ C hR (List.mem_of_getElem? (i := 7) rfl) (List.mem_of_getElem? (i := 8) rfl) (List.mem_of_getElem? (i := 9) rfl) (List.mem_of_getElem? (i := 10) rfl) (Nat.le_trans (by decide) hd) hl1A.1 hl1A.2 (wf_Numbers_left hW hl0A).2.1 (wf_Numbers_left hW hl0A).2.2 y23a y23b y23c y23d y23e (Nat.le_of_ble_eq_true rfl) eS24.symm dX8_divide_8 ?_
  have hWS24 : wkWF S24 := by rw [eS24]; exact hW
  have hXS24 : wkExt S S24 := by rw [eS24]; exact wkExt.rf
  refine wk_aload_n C dX8_divide_11 rfl rfl ?_
  refine wk_get C huX8_divide_8 (hXS24 _ _ hl0A).1 (fun cy => wAt_8 cy _ (hXS24 _ _ hl0A).2) rfl 7 (by decide) (List.mem_of_getElem? (i := 2) rfl) rfl (congrArg some (congrArg va_rf (wf_Numbers_often hWS24 (hXS24 _ _ hl0A)).1)) dX8_divide_12 ?_
  refine wk_lconst C (v := 0) dX8_divide_15 (by decide) ?_
  refine wk_callW C hR (As := [.ref (wkAd (gNumbers_often S24 l0A)), .long (0 : Int64)]) (cnt := 2) (tJ7_fill_d0a16 (l := l) hWS24 (wf_Numbers_often hWS24 (hXS24 _ _ hl0A)).2 h) rfl (wkGoodW (List.mem_of_getElem? (i := 11) rfl) (List.mem_of_getElem? (i := 12) rfl) (List.mem_of_getElem? (i := 13) rfl) hbX8_divide_J7_fill_d0a16 gdJ7_fill_d0a16) (Nat.le_trans (by decide : 0 + 1 ≤ 1) hd) (by decide) ⟨by decide, by decide, by decide +kernel⟩ rfl rfl (Nat.le_of_ble_eq_true rfl) (Nat.le_refl 0) (Nat.le_refl 0) dX8_divide_16 (fun v' S26 hp => ?_)
  obtain ⟨v25, rfl, h, hWS26, hXS26⟩ := hp
  refine wk_aload_n C dX8_divide_19 rfl rfl ?_
  refine wk_iload C dX8_divide_20 rfl ?_
  obtain ⟨i30, h⟩ := h
  refine wk_lald C (hXS26 _ _ (hXS24 _ _ hl2A)).1 (hXS26 _ _ (hXS24 _ _ hl2A)).2 i30 rfl dX8_divide_22 ?_
  obtain ⟨x31, ex31, h⟩ := wkLt_some h
  refine wk_topl ex31 ?_
  refine wk_lstore C (lv' := [some (.ref l0A), some (.ref l1A), some (.ref l2A), some (.int l3I), some (.int l4I), some (.long x31), none, none, none, none, none]) dX8_divide_23 (by decide) rfl ?_
  refine wk_iload_n C dX8_divide_25 rfl rfl ?_
  refine wk_iload C dX8_divide_26 rfl ?_
  refine wk_isub C dX8_divide_28 rfl ?_
  obtain ⟨x32, ex32, h⟩ := wkLt_some h
  refine wk_topi ex32 ?_
  refine wk_istore C (lv' := [some (.ref l0A), some (.ref l1A), some (.ref l2A), some (.int l3I), some (.int l4I), some (.long x31), none, some (.int x32), none, none, none]) dX8_divide_29 (by decide) rfl ?_
  exact wk_forget (lv' := [some (.ref l0A), none, some (.ref l2A), none, some (.int l4I), some (.long x31), none, some (.int x32), none, none, none]) (wkLs.le ⟨rfl, rfl, rfl, rfl, rfl, trivial⟩) (ih.1 _ _ _ _ _ _ hWS26 (wkExt.tr (wkExt.tr hE hXS24) hXS26) (hXS26 _ _ (hXS24 _ _ hl0A)) (hXS26 _ _ (hXS24 _ _ hl2A)) h)
def wvX8_makeFree : List Cond := .code yX8_makeFree cX8_makeFree 4 none :: (([.static yX11_divisorInCommon, .initialized RX11] : List Cond) ++ (([]) ++ (wvX11_divisorInCommon)))
theorem hbX8_makeFree_X11_divisorInCommon : ∀ w ∈ wvX11_divisorInCommon, w ∈ wvX8_makeFree := fun w h => List.mem_cons_of_mem _ (List.mem_append_right _ (List.mem_append_right _ h))
theorem gdX8_makeFree : ∀ w ∈ wvX8_makeFree, wkGd w := wkGdC rfl (wkGdA (wkGdL (by decide +kernel)) (wkGdA (fun _ h => absurd h List.not_mem_nil) gdX11_divisorInCommon))
def rX8_makeFree_b0 (F : Nat) (rec : Nat → Nat → Int64 → Int32 → wPS → (Unit → wPS → Prop) → Prop) (l0A : Nat) (l1J : Int64) (l3I : Int32) (S : wPS) (Φ : (Unit → wPS → Prop)) : Prop :=
  if (Int32.ofNat (S.len l0A)) ≤ l3I then (rec 1 l0A l1J (0 : Int32) S Φ) else (¬ (l3I < 0 ∨ S.len l0A ≤ (l3I).toNatClampNeg) ∧ rX11_divisorInCommon F l1J (S.rJ l0A (l3I).toNatClampNeg) S fun v3 S4 => wkLt (l3I + (1 : Int32)) fun x8 => rec 0 l0A v3 x8 S4 Φ)
def rX8_makeFree_b1 (F : Nat) (rec : Nat → Nat → Int64 → Int32 → wPS → (Unit → wPS → Prop) → Prop) (l0A : Nat) (l1J : Int64) (l3I : Int32) (S : wPS) (Φ : (Unit → wPS → Prop)) : Prop :=
  if (Int32.ofNat (S.len l0A)) ≤ l3I then (Φ () S) else (if (lg_cmp l1J (1 : Int64)) ≤ 0 then (Φ () S) else (¬ (l3I < 0 ∨ S.len l0A ≤ (l3I).toNatClampNeg) ∧ ¬ l1J = 0 ∧ ¬ (l3I < 0 ∨ S.len l0A ≤ (l3I).toNatClampNeg) ∧ wkLt (wuJ S l0A l3I ((S.rJ l0A (l3I).toNatClampNeg) / l1J)) fun S14 => wkLt (l3I + (1 : Int32)) fun x15 => rec 1 l0A l1J x15 S14 Φ))
def rX8_makeFree_go (F : Nat) : Nat → Nat → Nat → Int64 → Int32 → wPS → (Unit → wPS → Prop) → Prop
  | 0, _, _, _, _, _, _ => False
  | k' + 1, lab, l0A, l1J, l3I, S, Φ => if lab = 0 then rX8_makeFree_b0 F (rX8_makeFree_go F k') l0A l1J l3I S Φ else if lab = 1 then rX8_makeFree_b1 F (rX8_makeFree_go F k') l0A l1J l3I S Φ else False
def rX8_makeFree_s (F : Nat) (rec : Nat → Nat → Int64 → Int32 → wPS → (Unit → wPS → Prop) → Prop) (l0A : Nat) (S : wPS) (Φ : (Unit → wPS → Prop)) : Prop :=
  rec 0 l0A (0 : Int64) (0 : Int32) S Φ
def rX8_makeFree (F : Nat) (l0A : Nat) (S : wPS) (Φ : (Unit → wPS → Prop)) : Prop := rX8_makeFree_s F (rX8_makeFree_go F F) l0A S Φ
set_option maxHeartbeats 4000000 in
set_option maxRecDepth 100000 in
theorem tX8_makeFree_go {l : Launch} {X : wkX} {d F : Nat} {S0 : wPS} {Φ : (Unit → wPS → Prop)} (C : wkC X cX8_makeFree RX8 4 wvX8_makeFree) (hR : wkRm X d 0 0) (hd : 2 ≤ d) (E : wkEnd l X cX8_makeFree 4 none 0 0 (fun v' S'' => ∃ v : Unit, v' = none ∧ Φ v S'' ∧ wkWF S'' ∧ wkExt S0 S'')) : ∀ k' : Nat, (∀ (l0A : Nat) (l1J : Int64) (l3I : Int32) (S : wPS), wkWF S → wkExt S0 S → wkIs S l0A 14 → rX8_makeFree_go F k' 0 l0A l1J l3I S Φ → wkGo l X 4 0 0 4 S [some (.ref l0A), some (.long l1J), none, some (.int l3I)] []) ∧ (∀ (l0A : Nat) (l1J : Int64) (l3I : Int32) (S : wPS), wkWF S → wkExt S0 S → wkIs S l0A 14 → rX8_makeFree_go F k' 1 l0A l1J l3I S Φ → wkGo l X 4 0 0 26 S [some (.ref l0A), some (.long l1J), none, some (.int l3I)] []) := by
  intro k'
  induction k' with
  | zero => exact ⟨fun l0A l1J l3I S hW hE hl0A h => h.elim, fun l0A l1J l3I S hW hE hl0A h => h.elim⟩
  | succ k' ih =>
    refine ⟨?_, ?_⟩
    · intro l0A l1J l3I S hW hE hl0A h
      have h : rX8_makeFree_b0 F (rX8_makeFree_go F k') l0A l1J l3I S Φ := by
        rw [rX8_makeFree_go, if_pos (rfl : (0 : Nat) = 0)] at h
        exact h
      unfold rX8_makeFree_b0 at h
      refine wk_iload_n C dX8_makeFree_4 rfl rfl ?_
      refine wk_aload_n C dX8_makeFree_5 rfl rfl ?_
      refine wk_llen C hl0A.1 hl0A.2 rfl dX8_makeFree_6 ?_
      refine wk_icmp_ge C (tgt := 24) dX8_makeFree_7 (by decide) (fun c1 => ?_) (fun c1 => ?_)
      · rw [if_pos c1] at h
        refine wk_iconst C (v := 0) dX8_makeFree_24 (by decide) ?_
        refine wk_istore_n C (lv' := [some (.ref l0A), some (.long l1J), none, some (.int (0 : Int32))]) dX8_makeFree_25 rfl (by decide) rfl ?_
        exact wk_forget (lv' := [some (.ref l0A), some (.long l1J), none, some (.int (0 : Int32))]) (wkLs.le ⟨rfl, rfl, rfl, trivial⟩) (ih.2 _ _ _ _ hW hE hl0A h)
      · rw [if_neg c1] at h
        refine wk_lload_n C dX8_makeFree_10 rfl rfl ?_
        refine wk_aload_n C dX8_makeFree_11 rfl rfl ?_
        refine wk_iload_n C dX8_makeFree_12 rfl rfl ?_
        obtain ⟨i2, h⟩ := h
        refine wk_lald C hl0A.1 hl0A.2 i2 rfl dX8_makeFree_13 ?_
        refine wk_callN C hR (y := yX11_divisorInCommon) (host := "Witnessworks") (As := [.long l1J, .long (S.rJ l0A (l3I).toNatClampNeg)]) (cnt := 2) (tX11_divisorInCommon (l := l) hW  h) rfl (fun w h => ⟨hbX8_makeFree_X11_divisorInCommon w h, gdX11_divisorInCommon w h⟩) (by decide +kernel) (List.mem_of_getElem? (i := 1) rfl) (List.mem_of_getElem? (i := 2) rfl) (Nat.le_trans (by decide : 1 + 1 ≤ 2) hd) (by decide) ⟨by decide, by decide, by decide +kernel⟩ rfl rfl (Nat.le_of_ble_eq_true rfl) (Nat.le_refl 0) (Nat.le_refl 0) dX8_makeFree_14 (fun v' S4 hp => ?_)
        obtain ⟨v3, rfl, h, hWS4, hXS4⟩ := hp
        refine wk_lstore_n C (lv' := [some (.ref l0A), some (.long v3), none, some (.int l3I)]) dX8_makeFree_17 rfl (by decide) rfl ?_
        obtain ⟨x8, ex8, h⟩ := wkLt_some h
        refine wk_iinc C (lv' := [some (.ref l0A), some (.long v3), none, some (.int x8)]) dX8_makeFree_18 rfl (by rw [ex8]; rfl) (by decide) rfl ?_
        refine wk_goto C (tgt := 4) dX8_makeFree_21 (by decide) ?_
        exact wk_forget (lv' := [some (.ref l0A), some (.long v3), none, some (.int x8)]) (wkLs.le ⟨rfl, rfl, rfl, trivial⟩) (ih.1 _ _ _ _ hWS4 (wkExt.tr hE hXS4) (hXS4 _ _ hl0A) h)
    · intro l0A l1J l3I S hW hE hl0A h
      have h : rX8_makeFree_b1 F (rX8_makeFree_go F k') l0A l1J l3I S Φ := by
        rw [rX8_makeFree_go, if_neg (show ¬ (1 : Nat) = 0 by decide), if_pos (rfl : (1 : Nat) = 1)] at h
        exact h
      unfold rX8_makeFree_b1 at h
      refine wk_iload_n C dX8_makeFree_26 rfl rfl ?_
      refine wk_aload_n C dX8_makeFree_27 rfl rfl ?_
      refine wk_llen C hl0A.1 hl0A.2 rfl dX8_makeFree_28 ?_
      refine wk_icmp_ge C (tgt := 51) dX8_makeFree_29 (by decide) (fun c9 => ?_) (fun c9 => ?_)
      · rw [if_pos c9] at h
        exact E _ _ _ _ _ (Nat.le_refl 0) (Nat.le_refl 0) dX8_makeFree_51 ⟨(), rfl, h, hW, hE⟩
      · rw [if_neg c9] at h
        refine wk_lload_n C dX8_makeFree_32 rfl rfl ?_
        refine wk_lconst C (v := 1) dX8_makeFree_33 (by decide) ?_
        refine wk_lcmp C dX8_makeFree_34 rfl ?_
        refine wk_if_le C (tgt := 51) dX8_makeFree_35 (by decide) (fun c10 => ?_) (fun c10 => ?_)
        · rw [if_pos c10] at h
          exact E _ _ _ _ _ (Nat.le_refl 0) (Nat.le_refl 0) dX8_makeFree_51 ⟨(), rfl, h, hW, hE⟩
        · rw [if_neg c10] at h
          refine wk_aload_n C dX8_makeFree_38 rfl rfl ?_
          refine wk_iload_n C dX8_makeFree_39 rfl rfl ?_
          refine wk_dup2 C dX8_makeFree_40 rfl rfl ?_
          obtain ⟨i11, h⟩ := h
          refine wk_lald C hl0A.1 hl0A.2 i11 rfl dX8_makeFree_41 ?_
          refine wk_lload_n C dX8_makeFree_42 rfl rfl ?_
          obtain ⟨z12, h⟩ := h
          refine wk_ldiv C dX8_makeFree_43 z12 rfl ?_
          obtain ⟨i13, h⟩ := h
          obtain ⟨S14, eS14, h⟩ := wkLt_some h
          refine wk_last C hl0A.1 hl0A.2 i13 eS14.symm dX8_makeFree_44 ?_
          have hWS14 : wkWF S14 := by rw [eS14]; exact hW
          have hXS14 : wkExt S S14 := by rw [eS14]; exact wkExt.rf
          obtain ⟨x15, ex15, h⟩ := wkLt_some h
          refine wk_iinc C (lv' := [some (.ref l0A), some (.long l1J), none, some (.int x15)]) dX8_makeFree_45 rfl (by rw [ex15]; rfl) (by decide) rfl ?_
          refine wk_goto C (tgt := 26) dX8_makeFree_48 (by decide) ?_
          exact wk_forget (lv' := [some (.ref l0A), some (.long l1J), none, some (.int x15)]) (wkLs.le ⟨rfl, rfl, rfl, trivial⟩) (ih.2 _ _ _ _ hWS14 (wkExt.tr hE hXS14) (hXS14 _ _ hl0A) h)
set_option maxHeartbeats 4000000 in
set_option maxRecDepth 100000 in
theorem tX8_makeFree {l : Launch} {g : wkG} {F : Nat}  {S : wPS} {l0A : Nat} {Φ : (Unit → wPS → Prop)} (hW : wkWF S) (hl0A : wkIs S l0A 14) (h : rX8_makeFree F l0A S Φ) : wkMet l g yX8_makeFree wvX8_makeFree 2 0 0 [.ref l0A] S (fun v' S'' => ∃ v : Unit, v' = none ∧ Φ v S'' ∧ wkWF S'' ∧ wkExt S S'') := by
  refine wkMet_of (ret := none) (by decide) rfl (Nat.le_of_ble_eq_true rfl) (fun X hg C hR E => ?_)
  subst hg
  have hE : wkExt S S := wkExt.rf
  have hd : 2 ≤ 2 := Nat.le_refl _
  show wkGo l X 4 0 0 0 S [some (.ref l0A), none, none, none] []
  have ih := tX8_makeFree_go (F := F) C hR hd E F
  have h : rX8_makeFree_s F (rX8_makeFree_go F F) l0A S Φ := h
  unfold rX8_makeFree_s at h
  refine wk_lconst C (v := 0) dX8_makeFree_0 (by decide) ?_
  refine wk_lstore_n C (lv' := [some (.ref l0A), some (.long (0 : Int64)), none, none]) dX8_makeFree_1 rfl (by decide) rfl ?_
  refine wk_iconst C (v := 0) dX8_makeFree_2 (by decide) ?_
  refine wk_istore_n C (lv' := [some (.ref l0A), some (.long (0 : Int64)), none, some (.int (0 : Int32))]) dX8_makeFree_3 rfl (by decide) rfl ?_
  exact wk_forget (lv' := [some (.ref l0A), some (.long (0 : Int64)), none, some (.int (0 : Int32))]) (wkLs.le ⟨rfl, rfl, rfl, trivial⟩) (ih.1 _ _ _ _ hW hE hl0A h)
