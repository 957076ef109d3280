def wvX8_fulfilItem : List Cond := .code yX8_fulfilItem cX8_fulfilItem 7 (some .boolean) :: (([.fieldLink RX8 46 "Witnessworks$Entry" "size" "I", .methodLink RX8 77 yX3_at, .instanceMethod yX3_at, .selects RX3 yX3_at yX3_at, .initialized RX3, .fieldLink RX8 11 "Witnessworks$Numbers" "point" "[J", .fieldLink RX8 80 "Witnessworks$Numbers" "basisCount" "I", .methodLink RX8 97 yX8_gather, .instanceMethod yX8_gather, .selects RX8 yX8_gather yX8_gather, .initialized RX8, .fieldLink RX8 20 "Witnessworks$Numbers" "amounts" "[J", .methodLink RX8 101 yX8_movePoint, .instanceMethod yX8_movePoint, .selects RX8 yX8_movePoint yX8_movePoint, .methodLink RX8 105 yX8_removeBasis, .instanceMethod yX8_removeBasis, .selects RX8 yX8_removeBasis yX8_removeBasis, .fieldLink RX8 17 "Witnessworks$Numbers" "basis" "[[J", .methodLink RX8 93 yX8_rightSide, .static yX8_rightSide] : List Cond) ++ ((wsX30 ++ (wsX80)) ++ (wvX3_at ++ (wvX8_gather ++ (wvX8_movePoint ++ (wvX8_removeBasis ++ (wvX8_rightSide)))))))
theorem huX8_fulfilItem_3 : ∀ w ∈ u_ws RX3 TX3 17, w ∈ wvX8_fulfilItem := fun w h => List.mem_cons_of_mem _ (List.mem_append_right _ (List.mem_append_left _ (List.mem_append_left _ h)))
theorem huX8_fulfilItem_8 : ∀ w ∈ u_ws RX8 TX8 9, w ∈ wvX8_fulfilItem := fun w h => List.mem_cons_of_mem _ (List.mem_append_right _ (List.mem_append_left _ (List.mem_append_right _ h)))
theorem hbX8_fulfilItem_X3_at : ∀ w ∈ wvX3_at, w ∈ wvX8_fulfilItem := fun w h => List.mem_cons_of_mem _ (List.mem_append_right _ (List.mem_append_right _ (List.mem_append_left _ h)))
theorem hbX8_fulfilItem_X8_gather : ∀ w ∈ wvX8_gather, w ∈ wvX8_fulfilItem := fun w h => List.mem_cons_of_mem _ (List.mem_append_right _ (List.mem_append_right _ (List.mem_append_right _ (List.mem_append_left _ h))))
theorem hbX8_fulfilItem_X8_movePoint : ∀ w ∈ wvX8_movePoint, w ∈ wvX8_fulfilItem := fun w h => List.mem_cons_of_mem _ (List.mem_append_right _ (List.mem_append_right _ (List.mem_append_right _ (List.mem_append_right _ (List.mem_append_left _ h)))))
theorem hbX8_fulfilItem_X8_removeBasis : ∀ w ∈ wvX8_removeBasis, w ∈ wvX8_fulfilItem := fun w h => List.mem_cons_of_mem _ (List.mem_append_right _ (List.mem_append_right _ (List.mem_append_right _ (List.mem_append_right _ (List.mem_append_right _ (List.mem_append_left _ h))))))
theorem hbX8_fulfilItem_X8_rightSide : ∀ w ∈ wvX8_rightSide, w ∈ wvX8_fulfilItem := fun w h => List.mem_cons_of_mem _ (List.mem_append_right _ (List.mem_append_right _ (List.mem_append_right _ (List.mem_append_right _ (List.mem_append_right _ (List.mem_append_right _ h))))))
theorem gdX8_fulfilItem : ∀ w ∈ wvX8_fulfilItem, wkGd w := wkGdC rfl (wkGdA (wkGdL (by decide +kernel)) (wkGdA (wkGdA gdX3 gdX8) (wkGdA gdX3_at (wkGdA gdX8_gather (wkGdA gdX8_movePoint (wkGdA gdX8_removeBasis gdX8_rightSide))))))
def rX8_fulfilItem_b0 (F : Nat) (rec : Nat → Nat → Nat → Int32 → Int64 → Int32 → Int32 → wPS → (Int32 → wPS → Prop) → Prop) (l0A : Nat) (l1A : Nat) (l2I : Int32) (l3J : Int64) (l5I : Int32) (S : wPS) (Φ : (Int32 → wPS → Prop)) : Prop :=
  if (gEntry_size S l1A) ≤ l5I then (rec 1 l0A l1A l2I l3J (0 : Int32) 0 S Φ) else (rX3_at F l1A l2I l5I S fun v2 S3 => ¬ (l5I < 0 ∨ S3.len (wkAd (gNumbers_point S3 l0A)) ≤ (l5I).toNatClampNeg) ∧ wkLt ((l3J - ((Int32.toInt64 v2) * (S3.rJ (wkAd (gNumbers_point S3 l0A)) (l5I).toNatClampNeg)))) fun x8 => wkLt (l5I + (1 : Int32)) fun x9 => rec 0 l0A l1A l2I x8 x9 0 S3 Φ)
def rX8_fulfilItem_b1 (F : Nat) (rec : Nat → Nat → Nat → Int32 → Int64 → Int32 → Int32 → wPS → (Int32 → wPS → Prop) → Prop) (l0A : Nat) (l1A : Nat) (l2I : Int32) (l3J : Int64) (l5I : Int32) (S : wPS) (Φ : (Int32 → wPS → Prop)) : Prop :=
  if (gNumbers_basisCount S l0A) ≤ l5I then (rX8_gather F l0A S fun v11 S12 => if v11 < 0 then (if (lg_cmp l3J (0 : Int64)) = 0 then (Φ (1 : Int32) S12) else (Φ (0 : Int32) S12)) else (¬ (v11 < 0 ∨ S12.len (wkAd (gNumbers_amounts S12 l0A)) ≤ (v11).toNatClampNeg) ∧ if (lg_cmp (S12.rJ (wkAd (gNumbers_amounts S12 l0A)) (v11).toNatClampNeg) (0 : Int64)) = 0 then (if (lg_cmp l3J (0 : Int64)) = 0 then (Φ (1 : Int32) S12) else (Φ (0 : Int32) S12)) else (¬ (v11 < 0 ∨ S12.len (wkAd (gNumbers_amounts S12 l0A)) ≤ (v11).toNatClampNeg) ∧ ¬ (S12.rJ (wkAd (gNumbers_amounts S12 l0A)) (v11).toNatClampNeg) = 0 ∧ if (lg_cmp (l3J - l3J / (S12.rJ (wkAd (gNumbers_amounts S12 l0A)) (v11).toNatClampNeg) * (S12.rJ (wkAd (gNumbers_amounts S12 l0A)) (v11).toNatClampNeg)) (0 : Int64)) = 0 then (¬ (v11 < 0 ∨ S12.len (wkAd (gNumbers_amounts S12 l0A)) ≤ (v11).toNatClampNeg) ∧ ¬ (S12.rJ (wkAd (gNumbers_amounts S12 l0A)) (v11).toNatClampNeg) = 0 ∧ rX8_movePoint F l0A v11 (l3J / (S12.rJ (wkAd (gNumbers_amounts S12 l0A)) (v11).toNatClampNeg)) S12 fun v25 S26 => rX8_removeBasis F l0A v11 S26 fun v30 S31 => Φ (1 : Int32) S31) else (Φ (0 : Int32) S12)))) else (¬ (l5I < 0 ∨ S.len (wkAd (gNumbers_amounts S l0A)) ≤ (l5I).toNatClampNeg) ∧ wkLt (wuJ S (wkAd (gNumbers_amounts S l0A)) l5I (0 : Int64)) fun S37 => rec 2 l0A l1A l2I l3J l5I (0 : Int32) S37 Φ)
def rX8_fulfilItem_b2 (F : Nat) (rec : Nat → Nat → Nat → Int32 → Int64 → Int32 → Int32 → wPS → (Int32 → wPS → Prop) → Prop) (l0A : Nat) (l1A : Nat) (l2I : Int32) (l3J : Int64) (l5I : Int32) (l6I : Int32) (S : wPS) (Φ : (Int32 → wPS → Prop)) : Prop :=
  if (gEntry_size S l1A) ≤ l6I then (wkLt (l5I + (1 : Int32)) fun x39 => rec 1 l0A l1A l2I l3J x39 0 S Φ) else (¬ (l5I < 0 ∨ S.len (wkAd (gNumbers_amounts S l0A)) ≤ (l5I).toNatClampNeg) ∧ rX3_at F l1A l2I l6I S fun v41 S42 => ¬ (l5I < 0 ∨ S42.len (wkAd (gNumbers_basis S42 l0A)) ≤ (l5I).toNatClampNeg) ∧ ¬ (l6I < 0 ∨ S42.len (wkAd (S42.rA (wkAd (gNumbers_basis S42 l0A)) (l5I).toNatClampNeg)) ≤ (l6I).toNatClampNeg) ∧ ¬ (l5I < 0 ∨ S42.len (wkAd (gNumbers_amounts S l0A)) ≤ (l5I).toNatClampNeg) ∧ wkLt (wuJ S42 (wkAd (gNumbers_amounts S l0A)) l5I ((S.rJ (wkAd (gNumbers_amounts S l0A)) (l5I).toNatClampNeg) + ((Int32.toInt64 v41) * (S42.rJ (wkAd (S42.rA (wkAd (gNumbers_basis S42 l0A)) (l5I).toNatClampNeg)) (l6I).toNatClampNeg)))) fun S50 => wkLt (l6I + (1 : Int32)) fun x51 => rec 2 l0A l1A l2I l3J l5I x51 S50 Φ)
def rX8_fulfilItem_go (F : Nat) : Nat → Nat → Nat → Nat → Int32 → Int64 → Int32 → Int32 → wPS → (Int32 → wPS → Prop) → Prop
  | 0, _, _, _, _, _, _, _, _, _ => False
  | k' + 1, lab, l0A, l1A, l2I, l3J, l5I, l6I, S, Φ => if lab = 0 then rX8_fulfilItem_b0 F (rX8_fulfilItem_go F k') l0A l1A l2I l3J l5I S Φ else if lab = 1 then rX8_fulfilItem_b1 F (rX8_fulfilItem_go F k') l0A l1A l2I l3J l5I S Φ else if lab = 2 then rX8_fulfilItem_b2 F (rX8_fulfilItem_go F k') l0A l1A l2I l3J l5I l6I S Φ else False
def rX8_fulfilItem_s (F : Nat) (rec : Nat → Nat → Nat → Int32 → Int64 → Int32 → Int32 → wPS → (Int32 → wPS → Prop) → Prop) (l0A : Nat) (l1A : Nat) (l2I : Int32) (S : wPS) (Φ : (Int32 → wPS → Prop)) : Prop :=
  rX8_rightSide F l1A l2I S fun v52 S53 => wkLt ((Int32.toInt64 v52)) fun x57 => rec 0 l0A l1A l2I x57 (0 : Int32) 0 S53 Φ
def rX8_fulfilItem (F : Nat) (l0A : Nat) (l1A : Nat) (l2I : Int32) (S : wPS) (Φ : (Int32 → wPS → Prop)) : Prop := rX8_fulfilItem_s F (rX8_fulfilItem_go F F) l0A l1A l2I S Φ
set_option maxHeartbeats 4000000 in
set_option maxRecDepth 100000 in
theorem tX8_fulfilItem_go {l : Launch} {X : wkX} {d F : Nat} {S0 : wPS} {Φ : (Int32 → wPS → Prop)} (C : wkC X cX8_fulfilItem RX8 7 wvX8_fulfilItem) (hR : wkRm X d 0 0) (hd : 2 ≤ d) (E : wkEnd l X cX8_fulfilItem 7 (some .boolean) 0 0 (fun v' S'' => ∃ v : Int32, v' = some (.int v) ∧ Φ v S'' ∧ wkWF S'' ∧ wkExt S0 S'')) : ∀ k' : Nat, (∀ (l0A : Nat) (l1A : Nat) (l2I : Int32) (l3J : Int64) (l5I : Int32) (S : wPS), wkWF S → wkExt S0 S → wkIs S l0A 8 → wkIs S l1A 3 → rX8_fulfilItem_go F k' 0 l0A l1A l2I l3J l5I 0 S Φ → wkGo l X 7 0 0 10 S [some (.ref l0A), some (.ref l1A), some (.int l2I), some (.long l3J), none, some (.int l5I), none] []) ∧ (∀ (l0A : Nat) (l1A : Nat) (l2I : Int32) (l3J : Int64) (l5I : Int32) (S : wPS), wkWF S → wkExt S0 S → wkIs S l0A 8 → wkIs S l1A 3 → rX8_fulfilItem_go F k' 1 l0A l1A l2I l3J l5I 0 S Φ → wkGo l X 7 0 0 47 S [some (.ref l0A), some (.ref l1A), some (.int l2I), some (.long l3J), none, some (.int l5I), none] []) ∧ (∀ (l0A : Nat) (l1A : Nat) (l2I : Int32) (l3J : Int64) (l5I : Int32) (l6I : Int32) (S : wPS), wkWF S → wkExt S0 S → wkIs S l0A 8 → wkIs S l1A 3 → rX8_fulfilItem_go F k' 2 l0A l1A l2I l3J l5I l6I S Φ → wkGo l X 7 0 0 67 S [some (.ref l0A), some (.ref l1A), some (.int l2I), some (.long l3J), none, some (.int l5I), some (.int l6I)] []) := by
  intro k'
  induction k' with
  | zero => exact ⟨fun l0A l1A l2I l3J l5I S hW hE hl0A hl1A h => h.elim, fun l0A l1A l2I l3J l5I S hW hE hl0A hl1A h => h.elim, fun l0A l1A l2I l3J l5I l6I S hW hE hl0A hl1A h => h.elim⟩
  | succ k' ih =>
    refine ⟨?_, ?_, ?_⟩
    · intro l0A l1A l2I l3J l5I S hW hE hl0A hl1A h
      have h : rX8_fulfilItem_b0 F (rX8_fulfilItem_go F k') l0A l1A l2I l3J l5I S Φ := by
        rw [rX8_fulfilItem_go, if_pos (rfl : (0 : Nat) = 0)] at h
        exact h
      unfold rX8_fulfilItem_b0 at h
      refine wk_iload C dX8_fulfilItem_10 rfl ?_
      refine wk_aload_n C dX8_fulfilItem_12 rfl rfl ?_
      refine wk_get C (v := .int (gEntry_size S l1A)) huX8_fulfilItem_3 hl1A.1 (fun cy => wAt_3 cy _ hl1A.2) rfl 1 (by decide) (List.mem_of_getElem? (i := 1) rfl) rfl rfl dX8_fulfilItem_13 ?_
      refine wk_icmp_ge C (tgt := 44) dX8_fulfilItem_16 (by decide) (fun c1 => ?_) (fun c1 => ?_)
      · rw [if_pos c1] at h
        refine wk_iconst C (v := 0) dX8_fulfilItem_44 (by decide) ?_
        refine wk_istore C (lv' := [some (.ref l0A), some (.ref l1A), some (.int l2I), some (.long l3J), none, some (.int (0 : Int32)), none]) dX8_fulfilItem_45 (by decide) rfl ?_
        exact wk_forget (lv' := [some (.ref l0A), some (.ref l1A), some (.int l2I), some (.long l3J), none, some (.int (0 : Int32)), none]) (wkLs.le ⟨rfl, rfl, rfl, rfl, rfl, trivial⟩) (ih.2.1 _ _ _ _ _ _ hW hE hl0A hl1A h)
      · rw [if_neg c1] at h
        refine wk_lload_n C dX8_fulfilItem_19 rfl rfl ?_
        refine wk_aload_n C dX8_fulfilItem_20 rfl rfl ?_
        refine wk_iload_n C dX8_fulfilItem_21 rfl rfl ?_
        refine wk_iload C dX8_fulfilItem_22 rfl ?_
        refine wk_callV C hR (As := [.int l2I, .int l5I]) (cnt := 2) (tX3_at (l := l) hW hl1A h) rfl (wkGoodV (List.mem_of_getElem? (i := 2) rfl) (List.mem_of_getElem? (i := 3) rfl) (List.mem_of_getElem? (i := 4) rfl) (List.mem_of_getElem? (i := 5) rfl) hbX8_fulfilItem_X3_at gdX3_at) (Nat.le_trans (by decide : 0 + 1 ≤ 2) hd) (by decide) hl1A.1 (fun cy => wAt_3 cy _ hl1A.2) rfl ⟨by decide, by decide, by decide +kernel⟩ rfl rfl (Nat.le_of_ble_eq_true rfl) (Nat.le_refl 0) (Nat.le_refl 0) dX8_fulfilItem_24 (fun v' S3 hp => ?_)
        obtain ⟨v2, rfl, h, hWS3, hXS3⟩ := hp
        refine wk_i2l C dX8_fulfilItem_27 rfl ?_
        refine wk_aload_n C dX8_fulfilItem_28 rfl rfl ?_
        refine wk_get C huX8_fulfilItem_8 (hXS3 _ _ hl0A).1 (fun cy => wAt_8 cy _ (hXS3 _ _ hl0A).2) rfl 0 (by decide) (List.mem_of_getElem? (i := 6) rfl) rfl (congrArg some (congrArg va_rf (wf_Numbers_point hWS3 (hXS3 _ _ hl0A)).1)) dX8_fulfilItem_29 ?_
        refine wk_iload C dX8_fulfilItem_32 rfl ?_
        obtain ⟨i7, h⟩ := h
        refine wk_lald C (wf_Numbers_point hWS3 (hXS3 _ _ hl0A)).2.1 (wf_Numbers_point hWS3 (hXS3 _ _ hl0A)).2.2 i7 rfl dX8_fulfilItem_34 ?_
        refine wk_lmul C dX8_fulfilItem_35 rfl ?_
        refine wk_lsub C dX8_fulfilItem_36 rfl ?_
        obtain ⟨x8, ex8, h⟩ := wkLt_some h
        refine wk_topl ex8 ?_
        refine wk_lstore_n C (lv' := [some (.ref l0A), some (.ref l1A), some (.int l2I), some (.long x8), none, some (.int l5I), none]) dX8_fulfilItem_37 rfl (by decide) rfl ?_
        obtain ⟨x9, ex9, h⟩ := wkLt_some h
        refine wk_iinc C (lv' := [some (.ref l0A), some (.ref l1A), some (.int l2I), some (.long x8), none, some (.int x9), none]) dX8_fulfilItem_38 rfl (by rw [ex9]; rfl) (by decide) rfl ?_
        refine wk_goto C (tgt := 10) dX8_fulfilItem_41 (by decide) ?_
        exact wk_forget (lv' := [some (.ref l0A), some (.ref l1A), some (.int l2I), some (.long x8), none, some (.int x9), none]) (wkLs.le ⟨rfl, rfl, rfl, rfl, rfl, trivial⟩) (ih.1 _ _ _ _ _ _ hWS3 (wkExt.tr hE hXS3) (hXS3 _ _ hl0A) (hXS3 _ _ hl1A) h)
    · intro l0A l1A l2I l3J l5I S hW hE hl0A hl1A h
      have h : rX8_fulfilItem_b1 F (rX8_fulfilItem_go F k') l0A l1A l2I l3J l5I S Φ := by
        rw [rX8_fulfilItem_go, if_neg (show ¬ (1 : Nat) = 0 by decide), if_pos (rfl : (1 : Nat) = 1)] at h
        exact h
      unfold rX8_fulfilItem_b1 at h
      refine wk_iload C dX8_fulfilItem_47 rfl ?_
      refine wk_aload_n C dX8_fulfilItem_49 rfl rfl ?_
      refine wk_get C (v := .int (gNumbers_basisCount S l0A)) huX8_fulfilItem_8 hl0A.1 (fun cy => wAt_8 cy _ hl0A.2) rfl 3 (by decide) (List.mem_of_getElem? (i := 7) rfl) rfl rfl dX8_fulfilItem_50 ?_
      refine wk_icmp_ge C (tgt := 117) dX8_fulfilItem_53 (by decide) (fun c10 => ?_) (fun c10 => ?_)
      · rw [if_pos c10] at h
        refine wk_aload_n C dX8_fulfilItem_117 rfl rfl ?_
        refine wk_callV C hR (As := []) (cnt := 0) (tX8_gather (l := l) hW hl0A h) rfl (wkGoodV (List.mem_of_getElem? (i := 8) rfl) (List.mem_of_getElem? (i := 9) rfl) (List.mem_of_getElem? (i := 10) rfl) (List.mem_of_getElem? (i := 11) rfl) hbX8_fulfilItem_X8_gather gdX8_gather) (Nat.le_trans (by decide : 1 + 1 ≤ 2) hd) (by decide) hl0A.1 (fun cy => wAt_8 cy _ hl0A.2) rfl ⟨by decide, by decide, by decide +kernel⟩ rfl rfl (Nat.le_of_ble_eq_true rfl) (Nat.le_refl 0) (Nat.le_refl 0) dX8_fulfilItem_118 (fun v' S12 hp => ?_)
        obtain ⟨v11, rfl, h, hWS12, hXS12⟩ := hp
        refine wk_istore C (lv' := [some (.ref l0A), some (.ref l1A), some (.int l2I), some (.long l3J), none, some (.int v11), none]) dX8_fulfilItem_121 (by decide) rfl ?_
        refine wk_iload C dX8_fulfilItem_123 rfl ?_
        refine wk_if_lt C (tgt := 140) dX8_fulfilItem_125 (by decide) (fun c16 => ?_) (fun c16 => ?_)
        · rw [if_pos c16] at h
          refine wk_lload_n C dX8_fulfilItem_140 rfl rfl ?_
          refine wk_lconst C (v := 0) dX8_fulfilItem_141 (by decide) ?_
          refine wk_lcmp C dX8_fulfilItem_142 rfl ?_
          refine wk_if_ne C (tgt := 150) dX8_fulfilItem_143 (by decide) (fun c17 => ?_) (fun c17 => ?_)
          · rw [if_neg c17] at h
            refine wk_iconst C (v := 0) dX8_fulfilItem_150 (by decide) ?_
            exact E _ _ _ _ _ _ (Nat.le_refl 0) (Nat.le_refl 0) dX8_fulfilItem_151 rfl ⟨(0 : Int32), rfl, h, hWS12, (wkExt.tr hE hXS12)⟩
          · rw [if_pos c17] at h
            refine wk_iconst C (v := 1) dX8_fulfilItem_146 (by decide) ?_
            refine wk_goto C (tgt := 151) dX8_fulfilItem_147 (by decide) ?_
            exact E _ _ _ _ _ _ (Nat.le_refl 0) (Nat.le_refl 0) dX8_fulfilItem_151 rfl ⟨(1 : Int32), rfl, h, hWS12, (wkExt.tr hE hXS12)⟩
        · rw [if_neg c16] at h
          refine wk_aload_n C dX8_fulfilItem_128 rfl rfl ?_
          refine wk_get C huX8_fulfilItem_8 (hXS12 _ _ hl0A).1 (fun cy => wAt_8 cy _ (hXS12 _ _ hl0A).2) rfl 2 (by decide) (List.mem_of_getElem? (i := 12) rfl) rfl (congrArg some (congrArg va_rf (wf_Numbers_amounts hWS12 (hXS12 _ _ hl0A)).1)) dX8_fulfilItem_129 ?_
          refine wk_iload C dX8_fulfilItem_132 rfl ?_
          obtain ⟨i18, h⟩ := h
          refine wk_lald C (wf_Numbers_amounts hWS12 (hXS12 _ _ hl0A)).2.1 (wf_Numbers_amounts hWS12 (hXS12 _ _ hl0A)).2.2 i18 rfl dX8_fulfilItem_134 ?_
          refine wk_lconst C (v := 0) dX8_fulfilItem_135 (by decide) ?_
          refine wk_lcmp C dX8_fulfilItem_136 rfl ?_
          refine wk_if_ne C (tgt := 152) dX8_fulfilItem_137 (by decide) (fun c19 => ?_) (fun c19 => ?_)
          · rw [if_neg c19] at h
            refine wk_lload_n C dX8_fulfilItem_152 rfl rfl ?_
            refine wk_aload_n C dX8_fulfilItem_153 rfl rfl ?_
            refine wk_get C huX8_fulfilItem_8 (hXS12 _ _ hl0A).1 (fun cy => wAt_8 cy _ (hXS12 _ _ hl0A).2) rfl 2 (by decide) (List.mem_of_getElem? (i := 12) rfl) rfl (congrArg some (congrArg va_rf (wf_Numbers_amounts hWS12 (hXS12 _ _ hl0A)).1)) dX8_fulfilItem_154 ?_
            refine wk_iload C dX8_fulfilItem_157 rfl ?_
            obtain ⟨i20, h⟩ := h
            refine wk_lald C (wf_Numbers_amounts hWS12 (hXS12 _ _ hl0A)).2.1 (wf_Numbers_amounts hWS12 (hXS12 _ _ hl0A)).2.2 i20 rfl dX8_fulfilItem_159 ?_
            obtain ⟨z21, h⟩ := h
            refine wk_lrem C dX8_fulfilItem_160 z21 rfl ?_
            refine wk_lconst C (v := 0) dX8_fulfilItem_161 (by decide) ?_
            refine wk_lcmp C dX8_fulfilItem_162 rfl ?_
            refine wk_if_eq C (tgt := 168) dX8_fulfilItem_163 (by decide) (fun c22 => ?_) (fun c22 => ?_)
            · rw [if_pos c22] at h
              refine wk_aload_n C dX8_fulfilItem_168 rfl rfl ?_
              refine wk_iload C dX8_fulfilItem_169 rfl ?_
              refine wk_lload_n C dX8_fulfilItem_171 rfl rfl ?_
              refine wk_aload_n C dX8_fulfilItem_172 rfl rfl ?_
              refine wk_get C huX8_fulfilItem_8 (hXS12 _ _ hl0A).1 (fun cy => wAt_8 cy _ (hXS12 _ _ hl0A).2) rfl 2 (by decide) (List.mem_of_getElem? (i := 12) rfl) rfl (congrArg some (congrArg va_rf (wf_Numbers_amounts hWS12 (hXS12 _ _ hl0A)).1)) dX8_fulfilItem_173 ?_
              refine wk_iload C dX8_fulfilItem_176 rfl ?_
              obtain ⟨i23, h⟩ := h
              refine wk_lald C (wf_Numbers_amounts hWS12 (hXS12 _ _ hl0A)).2.1 (wf_Numbers_amounts hWS12 (hXS12 _ _ hl0A)).2.2 i23 rfl dX8_fulfilItem_178 ?_
              obtain ⟨z24, h⟩ := h
              refine wk_ldiv C dX8_fulfilItem_179 z24 rfl ?_
              refine wk_callV C hR (As := [.int v11, .long (l3J / (S12.rJ (wkAd (gNumbers_amounts S12 l0A)) (v11).toNatClampNeg))]) (cnt := 2) (tX8_movePoint (l := l) hWS12 (hXS12 _ _ hl0A) h) rfl (wkGoodV (List.mem_of_getElem? (i := 13) rfl) (List.mem_of_getElem? (i := 14) rfl) (List.mem_of_getElem? (i := 15) rfl) (List.mem_of_getElem? (i := 11) rfl) hbX8_fulfilItem_X8_movePoint gdX8_movePoint) (Nat.le_trans (by decide : 0 + 1 ≤ 2) hd) (by decide) (hXS12 _ _ hl0A).1 (fun cy => wAt_8 cy _ (hXS12 _ _ hl0A).2) rfl ⟨by decide, by decide, by decide +kernel⟩ rfl rfl (Nat.le_of_ble_eq_true rfl) (Nat.le_refl 0) (Nat.le_refl 0) dX8_fulfilItem_180 (fun v' S26 hp => ?_)
              obtain ⟨v25, rfl, h, hWS26, hXS26⟩ := hp
              refine wk_aload_n C dX8_fulfilItem_183 rfl rfl ?_
              refine wk_iload C dX8_fulfilItem_184 rfl ?_
              refine wk_callV C hR (As := [.int v11]) (cnt := 1) (tX8_removeBasis (l := l) hWS26 (hXS26 _ _ (hXS12 _ _ hl0A)) h) rfl (wkGoodV (List.mem_of_getElem? (i := 16) rfl) (List.mem_of_getElem? (i := 17) rfl) (List.mem_of_getElem? (i := 18) rfl) (List.mem_of_getElem? (i := 11) rfl) hbX8_fulfilItem_X8_removeBasis gdX8_removeBasis) (Nat.le_trans (by decide : 0 + 1 ≤ 2) hd) (by decide) (hXS26 _ _ (hXS12 _ _ hl0A)).1 (fun cy => wAt_8 cy _ (hXS26 _ _ (hXS12 _ _ hl0A)).2) rfl ⟨by decide, by decide, by decide +kernel⟩ rfl rfl (Nat.le_of_ble_eq_true rfl) (Nat.le_refl 0) (Nat.le_refl 0) dX8_fulfilItem_186 (fun v' S31 hp => ?_)
              obtain ⟨v30, rfl, h, hWS31, hXS31⟩ := hp
              refine wk_iconst C (v := 1) dX8_fulfilItem_189 (by decide) ?_
              exact E _ _ _ _ _ _ (Nat.le_refl 0) (Nat.le_refl 0) dX8_fulfilItem_190 rfl ⟨(1 : Int32), rfl, h, hWS31, (wkExt.tr (wkExt.tr (wkExt.tr hE hXS12) hXS26) hXS31)⟩
            · rw [if_neg c22] at h
              refine wk_iconst C (v := 0) dX8_fulfilItem_166 (by decide) ?_
              exact E _ _ _ _ _ _ (Nat.le_refl 0) (Nat.le_refl 0) dX8_fulfilItem_167 rfl ⟨(0 : Int32), rfl, h, hWS12, (wkExt.tr hE hXS12)⟩
          · rw [if_pos c19] at h
            refine wk_lload_n C dX8_fulfilItem_140 rfl rfl ?_
            refine wk_lconst C (v := 0) dX8_fulfilItem_141 (by decide) ?_
            refine wk_lcmp C dX8_fulfilItem_142 rfl ?_
            refine wk_if_ne C (tgt := 150) dX8_fulfilItem_143 (by decide) (fun c35 => ?_) (fun c35 => ?_)
            · rw [if_neg c35] at h
              refine wk_iconst C (v := 0) dX8_fulfilItem_150 (by decide) ?_
              exact E _ _ _ _ _ _ (Nat.le_refl 0) (Nat.le_refl 0) dX8_fulfilItem_151 rfl ⟨(0 : Int32), rfl, h, hWS12, (wkExt.tr hE hXS12)⟩
            · rw [if_pos c35] at h
              refine wk_iconst C (v := 1) dX8_fulfilItem_146 (by decide) ?_
              refine wk_goto C (tgt := 151) dX8_fulfilItem_147 (by decide) ?_
              exact E _ _ _ _ _ _ (Nat.le_refl 0) (Nat.le_refl 0) dX8_fulfilItem_151 rfl ⟨(1 : Int32), rfl, h, hWS12, (wkExt.tr hE hXS12)⟩
      · rw [if_neg c10] at h
        refine wk_aload_n C dX8_fulfilItem_56 rfl rfl ?_
        refine wk_get C huX8_fulfilItem_8 hl0A.1 (fun cy => wAt_8 cy _ hl0A.2) rfl 2 (by decide) (List.mem_of_getElem? (i := 12) rfl) rfl (congrArg some (congrArg va_rf (wf_Numbers_amounts hW hl0A).1)) dX8_fulfilItem_57 ?_
        refine wk_iload C dX8_fulfilItem_60 rfl ?_
        refine wk_lconst C (v := 0) dX8_fulfilItem_62 (by decide) ?_
        obtain ⟨i36, h⟩ := h
        obtain ⟨S37, eS37, h⟩ := wkLt_some h
        refine wk_last C (wf_Numbers_amounts hW hl0A).2.1 (wf_Numbers_amounts hW hl0A).2.2 i36 eS37.symm dX8_fulfilItem_63 ?_
        have hWS37 : wkWF S37 := by rw [eS37]; exact hW
        have hXS37 : wkExt S S37 := by rw [eS37]; exact wkExt.rf
        refine wk_iconst C (v := 0) dX8_fulfilItem_64 (by decide) ?_
        refine wk_istore C (lv' := [some (.ref l0A), some (.ref l1A), some (.int l2I), some (.long l3J), none, some (.int l5I), some (.int (0 : Int32))]) dX8_fulfilItem_65 (by decide) rfl ?_
        exact wk_forget (lv' := [some (.ref l0A), some (.ref l1A), some (.int l2I), some (.long l3J), none, some (.int l5I), some (.int (0 : Int32))]) (wkLs.le ⟨rfl, rfl, rfl, rfl, rfl, rfl, trivial⟩) (ih.2.2 _ _ _ _ _ _ _ hWS37 (wkExt.tr hE hXS37) (hXS37 _ _ hl0A) (hXS37 _ _ hl1A) h)
    · intro l0A l1A l2I l3J l5I l6I S hW hE hl0A hl1A h
      have h : rX8_fulfilItem_b2 F (rX8_fulfilItem_go F k') l0A l1A l2I l3J l5I l6I S Φ := by
        rw [rX8_fulfilItem_go, if_neg (show ¬ (2 : Nat) = 0 by decide), if_neg (show ¬ (2 : Nat) = 1 by decide), if_pos (rfl : (2 : Nat) = 2)] at h
        exact h
      unfold rX8_fulfilItem_b2 at h
      refine wk_iload C dX8_fulfilItem_67 rfl ?_
      refine wk_aload_n C dX8_fulfilItem_69 rfl rfl ?_
      refine wk_get C (v := .int (gEntry_size S l1A)) huX8_fulfilItem_3 hl1A.1 (fun cy => wAt_3 cy _ hl1A.2) rfl 1 (by decide) (List.mem_of_getElem? (i := 1) rfl) rfl rfl dX8_fulfilItem_70 ?_
      refine wk_icmp_ge C (tgt := 111) dX8_fulfilItem_73 (by decide) (fun c38 => ?_) (fun c38 => ?_)
      · rw [if_pos c38] at h
        obtain ⟨x39, ex39, h⟩ := wkLt_some h
        refine wk_iinc C (lv' := [some (.ref l0A), some (.ref l1A), some (.int l2I), some (.long l3J), none, some (.int x39), some (.int l6I)]) dX8_fulfilItem_111 rfl (by rw [ex39]; rfl) (by decide) rfl ?_
        refine wk_goto C (tgt := 47) dX8_fulfilItem_114 (by decide) ?_
        exact wk_forget (lv' := [some (.ref l0A), some (.ref l1A), some (.int l2I), some (.long l3J), none, some (.int x39), none]) (wkLs.le ⟨rfl, rfl, rfl, rfl, rfl, trivial⟩) (ih.2.1 _ _ _ _ _ _ hW hE hl0A hl1A h)
      · rw [if_neg c38] at h
        refine wk_aload_n C dX8_fulfilItem_76 rfl rfl ?_
        refine wk_get C huX8_fulfilItem_8 hl0A.1 (fun cy => wAt_8 cy _ hl0A.2) rfl 2 (by decide) (List.mem_of_getElem? (i := 12) rfl) rfl (congrArg some (congrArg va_rf (wf_Numbers_amounts hW hl0A).1)) dX8_fulfilItem_77 ?_
        refine wk_iload C dX8_fulfilItem_80 rfl ?_
        refine wk_dup2 C dX8_fulfilItem_82 rfl rfl ?_
        obtain ⟨i40, h⟩ := h
        refine wk_lald C (wf_Numbers_amounts hW hl0A).2.1 (wf_Numbers_amounts hW hl0A).2.2 i40 rfl dX8_fulfilItem_83 ?_
        refine wk_aload_n C dX8_fulfilItem_84 rfl rfl ?_
        refine wk_iload_n C dX8_fulfilItem_85 rfl rfl ?_
        refine wk_iload C dX8_fulfilItem_86 rfl ?_
        refine wk_callV C hR (As := [.int l2I, .int l6I]) (cnt := 2) (tX3_at (l := l) hW hl1A h) rfl (wkGoodV (List.mem_of_getElem? (i := 2) rfl) (List.mem_of_getElem? (i := 3) rfl) (List.mem_of_getElem? (i := 4) rfl) (List.mem_of_getElem? (i := 5) rfl) hbX8_fulfilItem_X3_at gdX3_at) (Nat.le_trans (by decide : 0 + 1 ≤ 2) hd) (by decide) hl1A.1 (fun cy => wAt_3 cy _ hl1A.2) rfl ⟨by decide, by decide, by decide +kernel⟩ rfl rfl (Nat.le_of_ble_eq_true rfl) (Nat.le_refl 0) (Nat.le_refl 0) dX8_fulfilItem_88 (fun v' S42 hp => ?_)
        obtain ⟨v41, rfl, h, hWS42, hXS42⟩ := hp
        refine wk_i2l C dX8_fulfilItem_91 rfl ?_
        refine wk_aload_n C dX8_fulfilItem_92 rfl rfl ?_
        refine wk_get C huX8_fulfilItem_8 (hXS42 _ _ hl0A).1 (fun cy => wAt_8 cy _ (hXS42 _ _ hl0A).2) rfl 1 (by decide) (List.mem_of_getElem? (i := 19) rfl) rfl (congrArg some (congrArg va_rf (wf_Numbers_basis hWS42 (hXS42 _ _ hl0A)).1)) dX8_fulfilItem_93 ?_
        refine wk_iload C dX8_fulfilItem_96 rfl ?_
        obtain ⟨i46, h⟩ := h
        have w47 := wf_R_J hWS42 (wf_Numbers_basis hWS42 (hXS42 _ _ hl0A)).2 (Nat.not_le.mp fun q => i46 (Or.inr q))
        refine wk_aald_J C (wf_Numbers_basis hWS42 (hXS42 _ _ hl0A)).2.1 (wf_Numbers_basis hWS42 (hXS42 _ _ hl0A)).2.2 i46 w47.1 dX8_fulfilItem_98 ?_
        refine wk_iload C dX8_fulfilItem_99 rfl ?_
        obtain ⟨i48, h⟩ := h
        refine wk_lald C w47.2.1 w47.2.2 i48 rfl dX8_fulfilItem_101 ?_
        refine wk_lmul C dX8_fulfilItem_102 rfl ?_
        refine wk_ladd C dX8_fulfilItem_103 rfl ?_
        obtain ⟨i49, h⟩ := h
        obtain ⟨S50, eS50, h⟩ := wkLt_some h
        refine wk_last C (hXS42 _ _ (wf_Numbers_amounts hW hl0A).2).1 (hXS42 _ _ (wf_Numbers_amounts hW hl0A).2).2 i49 eS50.symm dX8_fulfilItem_104 ?_
        have hWS50 : wkWF S50 := by rw [eS50]; exact hWS42
        have hXS50 : wkExt S42 S50 := by rw [eS50]; exact wkExt.rf
        obtain ⟨x51, ex51, h⟩ := wkLt_some h
        refine wk_iinc C (lv' := [some (.ref l0A), some (.ref l1A), some (.int l2I), some (.long l3J), none, some (.int l5I), some (.int x51)]) dX8_fulfilItem_105 rfl (by rw [ex51]; rfl) (by decide) rfl ?_
        refine wk_goto C (tgt := 67) dX8_fulfilItem_108 (by decide) ?_
        exact wk_forget (lv' := [some (.ref l0A), some (.ref l1A), some (.int l2I), some (.long l3J), none, some (.int l5I), some (.int x51)]) (wkLs.le ⟨rfl, rfl, rfl, rfl, rfl, rfl, trivial⟩) (ih.2.2 _ _ _ _ _ _ _ hWS50 (wkExt.tr (wkExt.tr hE hXS42) hXS50) (hXS50 _ _ (hXS42 _ _ hl0A)) (hXS50 _ _ (hXS42 _ _ hl1A)) h)
set_option maxHeartbeats 4000000 in
set_option maxRecDepth 100000 in
theorem tX8_fulfilItem {l : Launch} {g : wkG} {F : Nat}  {S : wPS} {l0A : Nat} {l1A : Nat} {l2I : Int32} {Φ : (Int32 → wPS → Prop)} (hW : wkWF S) (hl0A : wkIs S l0A 8) (hl1A : wkIs S l1A 3) (h : rX8_fulfilItem F l0A l1A l2I S Φ) : wkMet l g yX8_fulfilItem wvX8_fulfilItem 2 0 0 [.ref l0A, .ref l1A, .int l2I] S (fun v' S'' => ∃ v : Int32, v' = some (.int v) ∧ Φ v S'' ∧ wkWF S'' ∧ wkExt S S'') := by
  refine wkMet_of (ret := (some .boolean)) (by decide) rfl (Nat.le_of_ble_eq_true rfl) (fun X hg C hR E => ?_)
  subst hg
  have hE : wkExt S S := wkExt.rf
  have hd : 2 ≤ 2 := Nat.le_refl _
  show wkGo l X 7 0 0 0 S [some (.ref l0A), some (.ref l1A), some (.int l2I), none, none, none, none] []
  have ih := tX8_fulfilItem_go (F := F) C hR hd E F
  have h : rX8_fulfilItem_s F (rX8_fulfilItem_go F F) l0A l1A l2I S Φ := h
  unfold rX8_fulfilItem_s at h
  refine wk_aload_n C dX8_fulfilItem_0 rfl rfl ?_
  refine wk_iload_n C dX8_fulfilItem_1 rfl rfl ?_
  refine wk_callW C hR (As := [.ref l1A, .int l2I]) (cnt := 2) (tX8_rightSide (l := l) hW hl1A h) rfl (wkGoodW (List.mem_of_getElem? (i := 20) rfl) (List.mem_of_getElem? (i := 21) rfl) (List.mem_of_getElem? (i := 11) rfl) hbX8_fulfilItem_X8_rightSide gdX8_rightSide) (Nat.le_trans (by decide : 1 + 1 ≤ 2) hd) (by decide) ⟨by decide, by decide, by decide +kernel⟩ rfl rfl (Nat.le_of_ble_eq_true rfl) (Nat.le_refl 0) (Nat.le_refl 0) dX8_fulfilItem_2 (fun v' S53 hp => ?_)
  obtain ⟨v52, rfl, h, hWS53, hXS53⟩ := hp
  refine wk_i2l C dX8_fulfilItem_5 rfl ?_
  obtain ⟨x57, ex57, h⟩ := wkLt_some h
  refine wk_topl ex57 ?_
  refine wk_lstore_n C (lv' := [some (.ref l0A), some (.ref l1A), some (.int l2I), some (.long x57), none, none, none]) dX8_fulfilItem_6 rfl (by decide) rfl ?_
  refine wk_iconst C (v := 0) dX8_fulfilItem_7 (by decide) ?_
  refine wk_istore C (lv' := [some (.ref l0A), some (.ref l1A), some (.int l2I), some (.long x57), none, some (.int (0 : Int32)), none]) dX8_fulfilItem_8 (by decide) rfl ?_
  exact wk_forget (lv' := [some (.ref l0A), some (.ref l1A), some (.int l2I), some (.long x57), none, some (.int (0 : Int32)), none]) (wkLs.le ⟨rfl, rfl, rfl, rfl, rfl, trivial⟩) (ih.1 _ _ _ _ _ _ hWS53 (wkExt.tr hE hXS53) (hXS53 _ _ hl0A) (hXS53 _ _ hl1A) h)
def wvX8_writeModulus : List Cond := .code yX8_writeModulus cX8_writeModulus 5 none :: (([.methodLink RX8 124 yX8_areMultiples, .static yX8_areMultiples, .initialized RX8, .methodLink RX8 128 yX8_isNoMultiple, .static yX8_isNoMultiple, .fieldLink RX8 54 "Witnessworks$Entry" "row" "LWitnessworks$Row;", .methodLink RX8 58 yX9_add, .instanceMethod yX9_add, .selects RX9 yX9_add yX9_add, .initialized RX9, .fieldLink RX8 71 "Witnessworks$Entry" "itemCount" "I", .methodLink RX8 131 yX9_addBelow, .instanceMethod yX9_addBelow, .selects RX9 yX9_addBelow yX9_addBelow] : List Cond) ++ ((wsX30) ++ (wvX8_areMultiples ++ (wvX8_isNoMultiple ++ (wvX9_add ++ (wvX9_addBelow))))))
theorem huX8_writeModulus_3 : ∀ w ∈ u_ws RX3 TX3 17, w ∈ wvX8_writeModulus := fun w h => List.mem_cons_of_mem _ (List.mem_append_right _ (List.mem_append_left _ h))
theorem hbX8_writeModulus_X8_areMultiples : ∀ w ∈ wvX8_areMultiples, w ∈ wvX8_writeModulus := fun w h => List.mem_cons_of_mem _ (List.mem_append_right _ (List.mem_append_right _ (List.mem_append_left _ h)))
theorem hbX8_writeModulus_X8_isNoMultiple : ∀ w ∈ wvX8_isNoMultiple, w ∈ wvX8_writeModulus := fun w h => List.mem_cons_of_mem _ (List.mem_append_right _ (List.mem_append_right _ (List.mem_append_right _ (List.mem_append_left _ h))))
theorem hbX8_writeModulus_X9_add : ∀ w ∈ wvX9_add, w ∈ wvX8_writeModulus := fun w h => List.mem_cons_of_mem _ (List.mem_append_right _ (List.mem_append_right _ (List.mem_append_right _ (List.mem_append_right _ (List.mem_append_left _ h)))))
theorem hbX8_writeModulus_X9_addBelow : ∀ w ∈ wvX9_addBelow, w ∈ wvX8_writeModulus := fun w h => List.mem_cons_of_mem _ (List.mem_append_right _ (List.mem_append_right _ (List.mem_append_right _ (List.mem_append_right _ (List.mem_append_right _ h)))))
theorem gdX8_writeModulus : ∀ w ∈ wvX8_writeModulus, wkGd w := wkGdC rfl (wkGdA (wkGdL (by decide +kernel)) (wkGdA gdX3 (wkGdA gdX8_areMultiples (wkGdA gdX8_isNoMultiple (wkGdA gdX9_add gdX9_addBelow)))))
def rX8_writeModulus_b0 (F : Nat) (k n : Nat) (rec : Nat → Nat → Nat → Nat → Int32 → Int32 → Int32 → Int32 → Int32 → Int32 → wPS → (Unit → wPS → Prop) → Prop) (c s : Nat) (l0A : Nat) (l1I : Int32) (l2I : Int32) (S : wPS) (Φ : (Unit → wPS → Prop)) : Prop :=
  if (1000 : Int32) ≤ l2I then (Φ () S) else (rec 1 c s l0A l1I l2I (0 : Int32) 0 0 0 S Φ)
def rX8_writeModulus_b1 (F : Nat) (k n : Nat) (rec : Nat → Nat → Nat → Nat → Int32 → Int32 → Int32 → Int32 → Int32 → Int32 → wPS → (Unit → wPS → Prop) → Prop) (c s : Nat) (l0A : Nat) (l1I : Int32) (l2I : Int32) (l3I : Int32) (S : wPS) (Φ : (Unit → wPS → Prop)) : Prop :=
  if l2I ≤ l3I then (wkLt (l2I + (1 : Int32)) fun x3 => rec 0 c s l0A l1I x3 0 0 0 0 S Φ) else (rec 2 c s l0A l1I l2I l3I (0 : Int32) 0 0 S Φ)
def rX8_writeModulus_b2 (F : Nat) (k n : Nat) (rec : Nat → Nat → Nat → Nat → Int32 → Int32 → Int32 → Int32 → Int32 → Int32 → wPS → (Unit → wPS → Prop) → Prop) (c s : Nat) (l0A : Nat) (l1I : Int32) (l2I : Int32) (l3I : Int32) (l4I : Int32) (S : wPS) (Φ : (Unit → wPS → Prop)) : Prop :=
  if l1I = 0 then (rec 3 c s l0A l1I l2I l3I l4I l4I (1 : Int32) S Φ) else (rec 3 c s l0A l1I l2I l3I l4I l4I l2I S Φ)
def rX8_writeModulus_b3 (F : Nat) (k n : Nat) (rec : Nat → Nat → Nat → Nat → Int32 → Int32 → Int32 → Int32 → Int32 → Int32 → wPS → (Unit → wPS → Prop) → Prop) (c s : Nat) (l0A : Nat) (l1I : Int32) (l2I : Int32) (l3I : Int32) (l4I : Int32) (s0I : Int32) (s1I : Int32) (S : wPS) (Φ : (Unit → wPS → Prop)) : Prop :=
  if s1I ≤ s0I then (wkLt (l3I + (1 : Int32)) fun x6 => rec 1 c s l0A l1I l2I x6 0 0 0 S Φ) else (rX8_areMultiples F l0A (Int32.toInt64 l2I) (Int32.toInt64 l3I) (Int32.toInt64 l4I) S fun v7 S8 => if v7 = 0 then (wkLt (l4I + (1 : Int32)) fun x13 => rec 2 c s l0A l1I l2I l3I x13 0 0 S8 Φ) else (rX8_isNoMultiple F l0A (Int32.toInt64 l2I) (Int32.toInt64 l3I) (Int32.toInt64 l4I) S8 fun v14 S15 => if v14 = 0 then (wkLt (l4I + (1 : Int32)) fun x20 => rec 2 c s l0A l1I l2I l3I x20 0 0 S15 Φ) else (∃ k24 n25 : Nat, c + k24 ≤ k ∧ s + n25 ≤ n ∧ rX9_add F k24 n25 (wkAd (gEntry_row S15 l0A)) l2I S15 fun v21 S22 => ∃ k29 n30 : Nat, (c + k24) + k29 ≤ k ∧ (s + n25) + n30 ≤ n ∧ rX9_add F k29 n30 (wkAd (gEntry_row S22 l0A)) l3I S22 fun v26 S27 => ∃ k34 n35 : Nat, ((c + k24) + k29) + k34 ≤ k ∧ ((s + n25) + n30) + n35 ≤ n ∧ rX9_addBelow F k34 n35 (wkAd (gEntry_row S27 l0A)) ((gEntry_itemCount S27 l0A) + (1 : Int32)) l4I S27 fun v31 S32 => Φ () S32)))
def rX8_writeModulus_go (F : Nat) (k n : Nat) : Nat → Nat → Nat → Nat → Nat → Int32 → Int32 → Int32 → Int32 → Int32 → Int32 → wPS → (Unit → wPS → Prop) → Prop
  | 0, _, _, _, _, _, _, _, _, _, _, _, _ => False
  | k' + 1, lab, c, s, l0A, l1I, l2I, l3I, l4I, s0I, s1I, S, Φ => if lab = 0 then rX8_writeModulus_b0 F k n (rX8_writeModulus_go F k n k') c s l0A l1I l2I S Φ else if lab = 1 then rX8_writeModulus_b1 F k n (rX8_writeModulus_go F k n k') c s l0A l1I l2I l3I S Φ else if lab = 2 then rX8_writeModulus_b2 F k n (rX8_writeModulus_go F k n k') c s l0A l1I l2I l3I l4I S Φ else if lab = 3 then rX8_writeModulus_b3 F k n (rX8_writeModulus_go F k n k') c s l0A l1I l2I l3I l4I s0I s1I S Φ else False
def rX8_writeModulus_s (F : Nat) (k n : Nat) (rec : Nat → Nat → Nat → Nat → Int32 → Int32 → Int32 → Int32 → Int32 → Int32 → wPS → (Unit → wPS → Prop) → Prop) (l0A : Nat) (S : wPS) (Φ : (Unit → wPS → Prop)) : Prop :=
  if (gEntry_itemCount S l0A) ≤ (1 : Int32) then (rec 0 0 0 l0A (0 : Int32) (2 : Int32) 0 0 0 0 S Φ) else (rec 0 0 0 l0A (1 : Int32) (2 : Int32) 0 0 0 0 S Φ)
def rX8_writeModulus (F : Nat) (k n : Nat) (l0A : Nat) (S : wPS) (Φ : (Unit → wPS → Prop)) : Prop := rX8_writeModulus_s F k n (rX8_writeModulus_go F k n F) l0A S Φ
set_option maxHeartbeats 4000000 in
set_option maxRecDepth 100000 in
theorem tX8_writeModulus_go {k n : Nat} {l : Launch} {X : wkX} {d F : Nat} {S0 : wPS} {Φ : (Unit → wPS → Prop)} (C : wkC X cX8_writeModulus RX8 5 wvX8_writeModulus) (hR : wkRm X d k n) (hd : 4 ≤ d) (E : wkEnd l X cX8_writeModulus 5 none k n (fun v' S'' => ∃ v : Unit, v' = none ∧ Φ v S'' ∧ wkWF S'' ∧ wkExt S0 S'')) : ∀ k' : Nat, (∀ (c s : Nat), c ≤ k → s ≤ n → ∀ (l0A : Nat) (l1I : Int32) (l2I : Int32) (S : wPS), wkWF S → wkExt S0 S → wkIs S l0A 3 → rX8_writeModulus_go F k n k' 0 c s l0A l1I l2I 0 0 0 0 S Φ → wkGo l X 5 c s 16 S [some (.ref l0A), some (.int l1I), some (.int l2I), none, none] []) ∧ (∀ (c s : Nat), c ≤ k → s ≤ n → ∀ (l0A : Nat) (l1I : Int32) (l2I : Int32) (l3I : Int32) (S : wPS), wkWF S → wkExt S0 S → wkIs S l0A 3 → rX8_writeModulus_go F k n k' 1 c s l0A l1I l2I l3I 0 0 0 S Φ → wkGo l X 5 c s 25 S [some (.ref l0A), some (.int l1I), some (.int l2I), some (.int l3I), none] []) ∧ (∀ (c s : Nat), c ≤ k → s ≤ n → ∀ (l0A : Nat) (l1I : Int32) (l2I : Int32) (l3I : Int32) (l4I : Int32) (S : wPS), wkWF S → wkExt S0 S → wkIs S l0A 3 → rX8_writeModulus_go F k n k' 2 c s l0A l1I l2I l3I l4I 0 0 S Φ → wkGo l X 5 c s 33 S [some (.ref l0A), some (.int l1I), some (.int l2I), some (.int l3I), some (.int l4I)] []) ∧ (∀ (c s : Nat), c ≤ k → s ≤ n → ∀ (l0A : Nat) (l1I : Int32) (l2I : Int32) (l3I : Int32) (l4I : Int32) (s0I : Int32) (s1I : Int32) (S : wPS), wkWF S → wkExt S0 S → wkIs S l0A 3 → rX8_writeModulus_go F k n k' 3 c s l0A l1I l2I l3I l4I s0I s1I S Φ → wkGo l X 5 c s 44 S [some (.ref l0A), some (.int l1I), some (.int l2I), some (.int l3I), some (.int l4I)] [.int s1I, .int s0I]) := by
  intro k'
  induction k' with
  | zero => exact ⟨fun c s hc hs l0A l1I l2I S hW hE hl0A h => h.elim, fun c s hc hs l0A l1I l2I l3I S hW hE hl0A h => h.elim, fun c s hc hs l0A l1I l2I l3I l4I S hW hE hl0A h => h.elim, fun c s hc hs l0A l1I l2I l3I l4I s0I s1I S hW hE hl0A h => h.elim⟩
  | succ k' ih =>
    refine ⟨?_, ?_, ?_, ?_⟩
    · intro c s hc hs l0A l1I l2I S hW hE hl0A h
      have h : rX8_writeModulus_b0 F k n (rX8_writeModulus_go F k n k') c s l0A l1I l2I S Φ := by
        rw [rX8_writeModulus_go, if_pos (rfl : (0 : Nat) = 0)] at h
        exact h
      unfold rX8_writeModulus_b0 at h
      refine wk_iload_n C dX8_writeModulus_16 rfl rfl ?_
      refine wk_sipush C (v := 1000) dX8_writeModulus_17 (by decide) ?_
      refine wk_icmp_ge C (tgt := 125) dX8_writeModulus_20 (by decide) (fun c1 => ?_) (fun c1 => ?_)
      · rw [if_pos c1] at h
        exact E _ _ _ _ _ hc hs dX8_writeModulus_125 ⟨(), rfl, h, hW, hE⟩
      · rw [if_neg c1] at h
        refine wk_iconst C (v := 0) dX8_writeModulus_23 (by decide) ?_
        refine wk_istore_n C (lv' := [some (.ref l0A), some (.int l1I), some (.int l2I), some (.int (0 : Int32)), none]) dX8_writeModulus_24 rfl (by decide) rfl ?_
        exact wk_forget (lv' := [some (.ref l0A), some (.int l1I), some (.int l2I), some (.int (0 : Int32)), none]) (wkLs.le ⟨rfl, rfl, rfl, rfl, trivial⟩) (ih.2.1 _ _ hc hs _ _ _ _ _ hW hE hl0A h)
    · intro c s hc hs l0A l1I l2I l3I S hW hE hl0A h
      have h : rX8_writeModulus_b1 F k n (rX8_writeModulus_go F k n k') c s l0A l1I l2I l3I S Φ := by
        rw [rX8_writeModulus_go, if_neg (show ¬ (1 : Nat) = 0 by decide), if_pos (rfl : (1 : Nat) = 1)] at h
        exact h
      unfold rX8_writeModulus_b1 at h
      refine wk_iload_n C dX8_writeModulus_25 rfl rfl ?_
      refine wk_iload_n C dX8_writeModulus_26 rfl rfl ?_
      refine wk_icmp_ge C (tgt := 119) dX8_writeModulus_27 (by decide) (fun c2 => ?_) (fun c2 => ?_)
      · rw [if_pos c2] at h
        obtain ⟨x3, ex3, h⟩ := wkLt_some h
        refine wk_iinc C (lv' := [some (.ref l0A), some (.int l1I), some (.int x3), some (.int l3I), none]) dX8_writeModulus_119 rfl (by rw [ex3]; rfl) (by decide) rfl ?_
        refine wk_goto C (tgt := 16) dX8_writeModulus_122 (by decide) ?_
        exact wk_forget (lv' := [some (.ref l0A), some (.int l1I), some (.int x3), none, none]) (wkLs.le ⟨rfl, rfl, rfl, trivial⟩) (ih.1 _ _ hc hs _ _ _ _ hW hE hl0A h)
      · rw [if_neg c2] at h
        refine wk_iconst C (v := 0) dX8_writeModulus_30 (by decide) ?_
        refine wk_istore C (lv' := [some (.ref l0A), some (.int l1I), some (.int l2I), some (.int l3I), some (.int (0 : Int32))]) dX8_writeModulus_31 (by decide) rfl ?_
        exact wk_forget (lv' := [some (.ref l0A), some (.int l1I), some (.int l2I), some (.int l3I), some (.int (0 : Int32))]) (wkLs.le ⟨rfl, rfl, rfl, rfl, rfl, trivial⟩) (ih.2.2.1 _ _ hc hs _ _ _ _ _ _ hW hE hl0A h)
    · intro c s hc hs l0A l1I l2I l3I l4I S hW hE hl0A h
      have h : rX8_writeModulus_b2 F k n (rX8_writeModulus_go F k n k') c s l0A l1I l2I l3I l4I S Φ := by
        rw [rX8_writeModulus_go, if_neg (show ¬ (2 : Nat) = 0 by decide), if_neg (show ¬ (2 : Nat) = 1 by decide), if_pos (rfl : (2 : Nat) = 2)] at h
        exact h
      unfold rX8_writeModulus_b2 at h
      refine wk_iload C dX8_writeModulus_33 rfl ?_
      refine wk_iload_n C dX8_writeModulus_35 rfl rfl ?_
      refine wk_if_eq C (tgt := 43) dX8_writeModulus_36 (by decide) (fun c4 => ?_) (fun c4 => ?_)
      · rw [if_pos c4] at h
        refine wk_iconst C (v := 1) dX8_writeModulus_43 (by decide) ?_
        exact wk_forget (lv' := [some (.ref l0A), some (.int l1I), some (.int l2I), some (.int l3I), some (.int l4I)]) (wkLs.le ⟨rfl, rfl, rfl, rfl, rfl, trivial⟩) (ih.2.2.2 _ _ hc hs _ _ _ _ _ _ _ _ hW hE hl0A h)
      · rw [if_neg c4] at h
        refine wk_iload_n C dX8_writeModulus_39 rfl rfl ?_
        refine wk_goto C (tgt := 44) dX8_writeModulus_40 (by decide) ?_
        exact wk_forget (lv' := [some (.ref l0A), some (.int l1I), some (.int l2I), some (.int l3I), some (.int l4I)]) (wkLs.le ⟨rfl, rfl, rfl, rfl, rfl, trivial⟩) (ih.2.2.2 _ _ hc hs _ _ _ _ _ _ _ _ hW hE hl0A h)
    · intro c s hc hs l0A l1I l2I l3I l4I s0I s1I S hW hE hl0A h
      have h : rX8_writeModulus_b3 F k n (rX8_writeModulus_go F k n k') c s l0A l1I l2I l3I l4I s0I s1I S Φ := by
        rw [rX8_writeModulus_go, if_neg (show ¬ (3 : Nat) = 0 by decide), if_neg (show ¬ (3 : Nat) = 1 by decide), if_neg (show ¬ (3 : Nat) = 2 by decide), if_pos (rfl : (3 : Nat) = 3)] at h
        exact h
      unfold rX8_writeModulus_b3 at h
      refine wk_icmp_ge C (tgt := 113) dX8_writeModulus_44 (by decide) (fun c5 => ?_) (fun c5 => ?_)
      · rw [if_pos c5] at h
        obtain ⟨x6, ex6, h⟩ := wkLt_some h
        refine wk_iinc C (lv' := [some (.ref l0A), some (.int l1I), some (.int l2I), some (.int x6), some (.int l4I)]) dX8_writeModulus_113 rfl (by rw [ex6]; rfl) (by decide) rfl ?_
        refine wk_goto C (tgt := 25) dX8_writeModulus_116 (by decide) ?_
        exact wk_forget (lv' := [some (.ref l0A), some (.int l1I), some (.int l2I), some (.int x6), none]) (wkLs.le ⟨rfl, rfl, rfl, rfl, trivial⟩) (ih.2.1 _ _ hc hs _ _ _ _ _ hW hE hl0A h)
      · rw [if_neg c5] at h
        refine wk_aload_n C dX8_writeModulus_47 rfl rfl ?_
        refine wk_iload_n C dX8_writeModulus_48 rfl rfl ?_
        refine wk_i2l C dX8_writeModulus_49 rfl ?_
        refine wk_iload_n C dX8_writeModulus_50 rfl rfl ?_
        refine wk_i2l C dX8_writeModulus_51 rfl ?_
        refine wk_iload C dX8_writeModulus_52 rfl ?_
        refine wk_i2l C dX8_writeModulus_54 rfl ?_
        refine wk_callW C hR (As := [.ref l0A, .long (Int32.toInt64 l2I), .long (Int32.toInt64 l3I), .long (Int32.toInt64 l4I)]) (cnt := 4) (tX8_areMultiples (l := l) hW hl0A h) rfl (wkGoodW (List.mem_of_getElem? (i := 1) rfl) (List.mem_of_getElem? (i := 2) rfl) (List.mem_of_getElem? (i := 3) rfl) hbX8_writeModulus_X8_areMultiples gdX8_areMultiples) (Nat.le_trans (by decide : 1 + 1 ≤ 4) hd) (by decide) ⟨by decide, by decide, by decide +kernel⟩ rfl rfl (Nat.le_of_ble_eq_true rfl) hc hs dX8_writeModulus_55 (fun v' S8 hp => ?_)
        obtain ⟨v7, rfl, h, hWS8, hXS8⟩ := hp
        refine wk_if_eq C (tgt := 107) dX8_writeModulus_58 (by decide) (fun c12 => ?_) (fun c12 => ?_)
        · rw [if_pos c12] at h
          obtain ⟨x13, ex13, h⟩ := wkLt_some h
          refine wk_iinc C (lv' := [some (.ref l0A), some (.int l1I), some (.int l2I), some (.int l3I), some (.int x13)]) dX8_writeModulus_107 rfl (by rw [ex13]; rfl) (by decide) rfl ?_
          refine wk_goto C (tgt := 33) dX8_writeModulus_110 (by decide) ?_
          exact wk_forget (lv' := [some (.ref l0A), some (.int l1I), some (.int l2I), some (.int l3I), some (.int x13)]) (wkLs.le ⟨rfl, rfl, rfl, rfl, rfl, trivial⟩) (ih.2.2.1 _ _ hc hs _ _ _ _ _ _ hWS8 (wkExt.tr hE hXS8) (hXS8 _ _ hl0A) h)
        · rw [if_neg c12] at h
          refine wk_aload_n C dX8_writeModulus_61 rfl rfl ?_
          refine wk_iload_n C dX8_writeModulus_62 rfl rfl ?_
          refine wk_i2l C dX8_writeModulus_63 rfl ?_
          refine wk_iload_n C dX8_writeModulus_64 rfl rfl ?_
          refine wk_i2l C dX8_writeModulus_65 rfl ?_
          refine wk_iload C dX8_writeModulus_66 rfl ?_
          refine wk_i2l C dX8_writeModulus_68 rfl ?_
          refine wk_callW C hR (As := [.ref l0A, .long (Int32.toInt64 l2I), .long (Int32.toInt64 l3I), .long (Int32.toInt64 l4I)]) (cnt := 4) (tX8_isNoMultiple (l := l) hWS8 (hXS8 _ _ hl0A) h) rfl (wkGoodW (List.mem_of_getElem? (i := 4) rfl) (List.mem_of_getElem? (i := 5) rfl) (List.mem_of_getElem? (i := 3) rfl) hbX8_writeModulus_X8_isNoMultiple gdX8_isNoMultiple) (Nat.le_trans (by decide : 2 + 1 ≤ 4) hd) (by decide) ⟨by decide, by decide, by decide +kernel⟩ rfl rfl (Nat.le_of_ble_eq_true rfl) hc hs dX8_writeModulus_69 (fun v' S15 hp => ?_)
          obtain ⟨v14, rfl, h, hWS15, hXS15⟩ := hp
          refine wk_if_eq C (tgt := 107) dX8_writeModulus_72 (by decide) (fun c19 => ?_) (fun c19 => ?_)
          · rw [if_pos c19] at h
            obtain ⟨x20, ex20, h⟩ := wkLt_some h
            refine wk_iinc C (lv' := [some (.ref l0A), some (.int l1I), some (.int l2I), some (.int l3I), some (.int x20)]) dX8_writeModulus_107 rfl (by rw [ex20]; rfl) (by decide) rfl ?_
            refine wk_goto C (tgt := 33) dX8_writeModulus_110 (by decide) ?_
            exact wk_forget (lv' := [some (.ref l0A), some (.int l1I), some (.int l2I), some (.int l3I), some (.int x20)]) (wkLs.le ⟨rfl, rfl, rfl, rfl, rfl, trivial⟩) (ih.2.2.1 _ _ hc hs _ _ _ _ _ _ hWS15 (wkExt.tr (wkExt.tr hE hXS8) hXS15) (hXS15 _ _ (hXS8 _ _ hl0A)) h)
          · rw [if_neg c19] at h
            refine wk_aload_n C dX8_writeModulus_75 rfl rfl ?_
            refine wk_get C huX8_writeModulus_3 (hXS15 _ _ (hXS8 _ _ hl0A)).1 (fun cy => wAt_3 cy _ (hXS15 _ _ (hXS8 _ _ hl0A)).2) rfl 13 (by decide) (List.mem_of_getElem? (i := 6) rfl) rfl (congrArg some (congrArg va_rf (wf_Entry_row hWS15 (hXS15 _ _ (hXS8 _ _ hl0A))).1)) dX8_writeModulus_76 ?_
            refine wk_iload_n C dX8_writeModulus_79 rfl rfl ?_
            obtain ⟨k24, n25, hk24, hn25, h⟩ := h
            refine wk_callV C hR (As := [.int l2I]) (cnt := 1) (tX9_add (l := l) hWS15 (wf_Entry_row hWS15 (hXS15 _ _ (hXS8 _ _ hl0A))).2 h) rfl (wkGoodV (List.mem_of_getElem? (i := 7) rfl) (List.mem_of_getElem? (i := 8) rfl) (List.mem_of_getElem? (i := 9) rfl) (List.mem_of_getElem? (i := 10) rfl) hbX8_writeModulus_X9_add gdX9_add) (Nat.le_trans (by decide : 2 + 1 ≤ 4) hd) (by decide) (wf_Entry_row hWS15 (hXS15 _ _ (hXS8 _ _ hl0A))).2.1 (fun cy => wAt_9 cy _ (wf_Entry_row hWS15 (hXS15 _ _ (hXS8 _ _ hl0A))).2.2) rfl ⟨by decide, by decide, by decide +kernel⟩ rfl rfl (Nat.le_of_ble_eq_true rfl) hk24 hn25 dX8_writeModulus_80 (fun v' S22 hp => ?_)
            obtain ⟨v21, rfl, h, hWS22, hXS22⟩ := hp
            refine wk_aload_n C dX8_writeModulus_83 rfl rfl ?_
            refine wk_get C huX8_writeModulus_3 (hXS22 _ _ (hXS15 _ _ (hXS8 _ _ hl0A))).1 (fun cy => wAt_3 cy _ (hXS22 _ _ (hXS15 _ _ (hXS8 _ _ hl0A))).2) rfl 13 (by decide) (List.mem_of_getElem? (i := 6) rfl) rfl (congrArg some (congrArg va_rf (wf_Entry_row hWS22 (hXS22 _ _ (hXS15 _ _ (hXS8 _ _ hl0A)))).1)) dX8_writeModulus_84 ?_
            refine wk_iload_n C dX8_writeModulus_87 rfl rfl ?_
            obtain ⟨k29, n30, hk29, hn30, h⟩ := h
            refine wk_callV C hR (As := [.int l3I]) (cnt := 1) (tX9_add (l := l) hWS22 (wf_Entry_row hWS22 (hXS22 _ _ (hXS15 _ _ (hXS8 _ _ hl0A)))).2 h) rfl (wkGoodV (List.mem_of_getElem? (i := 7) rfl) (List.mem_of_getElem? (i := 8) rfl) (List.mem_of_getElem? (i := 9) rfl) (List.mem_of_getElem? (i := 10) rfl) hbX8_writeModulus_X9_add gdX9_add) (Nat.le_trans (by decide : 2 + 1 ≤ 4) hd) (by decide) (wf_Entry_row hWS22 (hXS22 _ _ (hXS15 _ _ (hXS8 _ _ hl0A)))).2.1 (fun cy => wAt_9 cy _ (wf_Entry_row hWS22 (hXS22 _ _ (hXS15 _ _ (hXS8 _ _ hl0A)))).2.2) rfl ⟨by decide, by decide, by decide +kernel⟩ rfl rfl (Nat.le_of_ble_eq_true rfl) hk29 hn30 dX8_writeModulus_88 (fun v' S27 hp => ?_)
            obtain ⟨v26, rfl, h, hWS27, hXS27⟩ := hp
            refine wk_aload_n C dX8_writeModulus_91 rfl rfl ?_
            refine wk_get C huX8_writeModulus_3 (hXS27 _ _ (hXS22 _ _ (hXS15 _ _ (hXS8 _ _ hl0A)))).1 (fun cy => wAt_3 cy _ (hXS27 _ _ (hXS22 _ _ (hXS15 _ _ (hXS8 _ _ hl0A)))).2) rfl 13 (by decide) (List.mem_of_getElem? (i := 6) rfl) rfl (congrArg some (congrArg va_rf (wf_Entry_row hWS27 (hXS27 _ _ (hXS22 _ _ (hXS15 _ _ (hXS8 _ _ hl0A))))).1)) dX8_writeModulus_92 ?_
            refine wk_aload_n C dX8_writeModulus_95 rfl rfl ?_
            refine wk_get C (v := .int (gEntry_itemCount S27 l0A)) huX8_writeModulus_3 (hXS27 _ _ (hXS22 _ _ (hXS15 _ _ (hXS8 _ _ hl0A)))).1 (fun cy => wAt_3 cy _ (hXS27 _ _ (hXS22 _ _ (hXS15 _ _ (hXS8 _ _ hl0A)))).2) rfl 6 (by decide) (List.mem_of_getElem? (i := 11) rfl) rfl rfl dX8_writeModulus_96 ?_
            refine wk_iconst C (v := 1) dX8_writeModulus_99 (by decide) ?_
            refine wk_iadd C dX8_writeModulus_100 rfl ?_
            refine wk_iload C dX8_writeModulus_101 rfl ?_
            obtain ⟨k34, n35, hk34, hn35, h⟩ := h
            refine wk_callV C hR (As := [.int ((gEntry_itemCount S27 l0A) + (1 : Int32)), .int l4I]) (cnt := 2) (tX9_addBelow (l := l) hWS27 (wf_Entry_row hWS27 (hXS27 _ _ (hXS22 _ _ (hXS15 _ _ (hXS8 _ _ hl0A))))).2 h) rfl (wkGoodV (List.mem_of_getElem? (i := 12) rfl) (List.mem_of_getElem? (i := 13) rfl) (List.mem_of_getElem? (i := 14) rfl) (List.mem_of_getElem? (i := 10) rfl) hbX8_writeModulus_X9_addBelow gdX9_addBelow) (Nat.le_trans (by decide : 3 + 1 ≤ 4) hd) (by decide) (wf_Entry_row hWS27 (hXS27 _ _ (hXS22 _ _ (hXS15 _ _ (hXS8 _ _ hl0A))))).2.1 (fun cy => wAt_9 cy _ (wf_Entry_row hWS27 (hXS27 _ _ (hXS22 _ _ (hXS15 _ _ (hXS8 _ _ hl0A))))).2.2) rfl ⟨by decide, by decide, by decide +kernel⟩ rfl rfl (Nat.le_of_ble_eq_true rfl) hk34 hn35 dX8_writeModulus_103 (fun v' S32 hp => ?_)
            obtain ⟨v31, rfl, h, hWS32, hXS32⟩ := hp
            exact E _ _ _ _ _ hk34 hn35 dX8_writeModulus_106 ⟨(), rfl, h, hWS32, (wkExt.tr (wkExt.tr (wkExt.tr (wkExt.tr (wkExt.tr hE hXS8) hXS15) hXS22) hXS27) hXS32)⟩
set_option maxHeartbeats 4000000 in
set_option maxRecDepth 100000 in
theorem tX8_writeModulus {l : Launch} {g : wkG} {F : Nat} {k n : Nat}  {S : wPS} {l0A : Nat} {Φ : (Unit → wPS → Prop)} (hW : wkWF S) (hl0A : wkIs S l0A 3) (h : rX8_writeModulus F k n l0A S Φ) : wkMet l g yX8_writeModulus wvX8_writeModulus 4 k n [.ref l0A] S (fun v' S'' => ∃ v : Unit, v' = none ∧ Φ v S'' ∧ wkWF S'' ∧ wkExt S S'') := by
  refine wkMet_of (ret := none) (by decide) rfl (Nat.le_of_ble_eq_true rfl) (fun X hg C hR E => ?_)
  subst hg
  have hE : wkExt S S := wkExt.rf
  have hd : 4 ≤ 4 := Nat.le_refl _
  show wkGo l X 5 0 0 0 S [some (.ref l0A), none, none, none, none] []
  have ih := tX8_writeModulus_go (F := F) C hR hd E F
  have h : rX8_writeModulus_s F k n (rX8_writeModulus_go F k n F) l0A S Φ := h
  unfold rX8_writeModulus_s at h
  refine wk_aload_n C dX8_writeModulus_0 rfl rfl ?_
  refine wk_get C (v := .int (gEntry_itemCount S l0A)) huX8_writeModulus_3 hl0A.1 (fun cy => wAt_3 cy _ hl0A.2) rfl 6 (by decide) (List.mem_of_getElem? (i := 11) rfl) rfl rfl dX8_writeModulus_1 ?_
  refine wk_iconst C (v := 1) dX8_writeModulus_4 (by decide) ?_
  refine wk_icmp_le C (tgt := 12) dX8_writeModulus_5 (by decide) (fun c36 => ?_) (fun c36 => ?_)
  · rw [if_pos c36] at h
    refine wk_iconst C (v := 0) dX8_writeModulus_12 (by decide) ?_
    refine wk_istore_n C (lv' := [some (.ref l0A), some (.int (0 : Int32)), none, none, none]) dX8_writeModulus_13 rfl (by decide) rfl ?_
    refine wk_iconst C (v := 2) dX8_writeModulus_14 (by decide) ?_
    refine wk_istore_n C (lv' := [some (.ref l0A), some (.int (0 : Int32)), some (.int (2 : Int32)), none, none]) dX8_writeModulus_15 rfl (by decide) rfl ?_
    exact wk_forget (lv' := [some (.ref l0A), some (.int (0 : Int32)), some (.int (2 : Int32)), none, none]) (wkLs.le ⟨rfl, rfl, rfl, trivial⟩) (ih.1 _ _ (Nat.zero_le _) (Nat.zero_le _) _ _ _ _ hW hE hl0A h)
  · rw [if_neg c36] at h
    refine wk_iconst C (v := 1) dX8_writeModulus_8 (by decide) ?_
    refine wk_goto C (tgt := 13) dX8_writeModulus_9 (by decide) ?_
    refine wk_istore_n C (lv' := [some (.ref l0A), some (.int (1 : Int32)), none, none, none]) dX8_writeModulus_13 rfl (by decide) rfl ?_
    refine wk_iconst C (v := 2) dX8_writeModulus_14 (by decide) ?_
    refine wk_istore_n C (lv' := [some (.ref l0A), some (.int (1 : Int32)), some (.int (2 : Int32)), none, none]) dX8_writeModulus_15 rfl (by decide) rfl ?_
    exact wk_forget (lv' := [some (.ref l0A), some (.int (1 : Int32)), some (.int (2 : Int32)), none, none]) (wkLs.le ⟨rfl, rfl, rfl, trivial⟩) (ih.1 _ _ (Nat.zero_le _) (Nat.zero_le _) _ _ _ _ hW hE hl0A h)
