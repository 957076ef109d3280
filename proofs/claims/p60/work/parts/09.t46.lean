def wvX10_readCode : List Cond := .code yX10_readCode cX10_readCode 5 (some .int) :: (([.fieldLink RX10 20 "Witnessworks$Words" "points" "[I", .methodLink RX10 161 yJ9_floorMod_7cf53, .static yJ9_floorMod_7cf53, .initialized RJ9, .methodLink RX10 164 yJ9_floorDiv_7cf53, .static yJ9_floorDiv_7cf53] : List Cond) ++ ((wsX100) ++ (wvJ9_floorMod_7cf53 ++ (wvJ9_floorDiv_7cf53))))
theorem huX10_readCode_10 : ∀ w ∈ u_ws RX10 TX10 12, w ∈ wvX10_readCode := fun w h => List.mem_cons_of_mem _ (List.mem_append_right _ (List.mem_append_left _ h))
theorem hbX10_readCode_J9_floorMod_7cf53 : ∀ w ∈ wvJ9_floorMod_7cf53, w ∈ wvX10_readCode := fun w h => List.mem_cons_of_mem _ (List.mem_append_right _ (List.mem_append_right _ (List.mem_append_left _ h)))
theorem hbX10_readCode_J9_floorDiv_7cf53 : ∀ w ∈ wvJ9_floorDiv_7cf53, w ∈ wvX10_readCode := fun w h => List.mem_cons_of_mem _ (List.mem_append_right _ (List.mem_append_right _ (List.mem_append_right _ h)))
theorem gdX10_readCode : ∀ w ∈ wvX10_readCode, wkGd w := wkGdC rfl (wkGdA (wkGdL (by decide +kernel)) (wkGdA gdX10 (wkGdA gdJ9_floorMod_7cf53 gdJ9_floorDiv_7cf53)))
def rX10_readCode_b0 (F : Nat) (rec : Nat → Nat → Int32 → Int32 → wPS → (Int32 → wPS → Prop) → Prop) (l0A : Nat) (l3I : Int32) (l4I : Int32) (S : wPS) (Φ : (Int32 → wPS → Prop)) : Prop :=
  if l4I < 0 then (Φ l3I S) else (rJ9_floorMod_7cf53 F l3I (6 : Int32) S fun v2 S3 => ¬ (l4I < 0 ∨ S3.len (wkAd (gWords_points S l0A)) ≤ (l4I).toNatClampNeg) ∧ wkLt (wuI S3 (wkAd (gWords_points S l0A)) l4I v2) fun S8 => rJ9_floorDiv_7cf53 F l3I (6 : Int32) S8 fun v9 S10 => wkLt (l4I + (-1 : Int32)) fun x14 => rec 0 l0A v9 x14 S10 Φ)
def rX10_readCode_go (F : Nat) : Nat → Nat → Nat → Int32 → Int32 → wPS → (Int32 → wPS → Prop) → Prop
  | 0, _, _, _, _, _, _ => False
  | k' + 1, lab, l0A, l3I, l4I, S, Φ => if lab = 0 then rX10_readCode_b0 F (rX10_readCode_go F k') l0A l3I l4I S Φ else False
def rX10_readCode_s (F : Nat) (rec : Nat → Nat → Int32 → Int32 → wPS → (Int32 → wPS → Prop) → Prop) (l0A : Nat) (l1I : Int32) (l2I : Int32) (S : wPS) (Φ : (Int32 → wPS → Prop)) : Prop :=
  wkLt ((l2I - (1 : Int32))) fun x15 => rec 0 l0A l1I x15 S Φ
def rX10_readCode (F : Nat) (l0A : Nat) (l1I : Int32) (l2I : Int32) (S : wPS) (Φ : (Int32 → wPS → Prop)) : Prop := rX10_readCode_s F (rX10_readCode_go F F) l0A l1I l2I S Φ
set_option maxHeartbeats 4000000 in
set_option maxRecDepth 100000 in
theorem tX10_readCode_go {l : Launch} {X : wkX} {d F : Nat} {S0 : wPS} {Φ : (Int32 → wPS → Prop)} (C : wkC X cX10_readCode RX10 5 wvX10_readCode) (hR : wkRm X d 0 0) (hd : 1 ≤ d) (E : wkEnd l X cX10_readCode 5 (some .int) 0 0 (fun v' S'' => ∃ v : Int32, v' = some (.int v) ∧ Φ v S'' ∧ wkWF S'' ∧ wkExt S0 S'')) : ∀ k' : Nat, (∀ (l0A : Nat) (l3I : Int32) (l4I : Int32) (S : wPS), wkWF S → wkExt S0 S → wkIs S l0A 10 → rX10_readCode_go F k' 0 l0A l3I l4I S Φ → wkGo l X 5 0 0 7 S [some (.ref l0A), none, none, some (.int l3I), some (.int l4I)] []) := by
  intro k'
  induction k' with
  | zero => exact fun l0A l3I l4I S hW hE hl0A h => h.elim
  | succ k' ih =>
    · intro l0A l3I l4I S hW hE hl0A h
      have h : rX10_readCode_b0 F (rX10_readCode_go F k') l0A l3I l4I S Φ := by
        rw [rX10_readCode_go, if_pos (rfl : (0 : Nat) = 0)] at h
        exact h
      unfold rX10_readCode_b0 at h
      refine wk_iload C dX10_readCode_7 rfl ?_
      refine wk_if_lt C (tgt := 38) dX10_readCode_9 (by decide) (fun c1 => ?_) (fun c1 => ?_)
      · rw [if_pos c1] at h
        refine wk_iload_n C dX10_readCode_38 rfl rfl ?_
        exact E _ _ _ _ _ _ (Nat.le_refl 0) (Nat.le_refl 0) dX10_readCode_39 ⟨l3I, rfl, h, hW, hE⟩
      · rw [if_neg c1] at h
        refine wk_aload_n C dX10_readCode_12 rfl rfl ?_
        refine wk_get C huX10_readCode_10 hl0A.1 (fun cy => wAt_10 cy _ hl0A.2) rfl 2 (by decide) (List.mem_of_getElem? (i := 1) rfl) rfl (congrArg some (congrArg va_rf (wf_Words_points hW hl0A).1)) dX10_readCode_13 ?_
        refine wk_iload C dX10_readCode_16 rfl ?_
        refine wk_iload_n C dX10_readCode_18 rfl rfl ?_
        refine wk_bipush C (v := 6) dX10_readCode_19 (by decide) ?_
        refine wk_callW C hR (As := [.int l3I, .int (6 : Int32)]) (cnt := 2) (tJ9_floorMod_7cf53 (l := l) hW  h) rfl (wkGoodW (List.mem_of_getElem? (i := 2) rfl) (List.mem_of_getElem? (i := 3) rfl) (List.mem_of_getElem? (i := 4) rfl) hbX10_readCode_J9_floorMod_7cf53 gdJ9_floorMod_7cf53) (Nat.le_trans (by decide : 0 + 1 ≤ 1) hd) (by decide) ⟨by decide, by decide, by decide +kernel⟩ rfl rfl (Nat.le_of_ble_eq_true rfl) (Nat.le_refl 0) (Nat.le_refl 0) dX10_readCode_21 (fun v' S3 hp => ?_)
        obtain ⟨v2, rfl, h, hWS3, hXS3⟩ := hp
        obtain ⟨i7, h⟩ := h
        obtain ⟨S8, eS8, h⟩ := wkLt_some h
        refine wk_iast C (hXS3 _ _ (wf_Words_points hW hl0A).2).1 (hXS3 _ _ (wf_Words_points hW hl0A).2).2 i7 eS8.symm dX10_readCode_24 ?_
        have hWS8 : wkWF S8 := by rw [eS8]; exact hWS3
        have hXS8 : wkExt S3 S8 := by rw [eS8]; exact wkExt.rf
        refine wk_iload_n C dX10_readCode_25 rfl rfl ?_
        refine wk_bipush C (v := 6) dX10_readCode_26 (by decide) ?_
        refine wk_callW C hR (As := [.int l3I, .int (6 : Int32)]) (cnt := 2) (tJ9_floorDiv_7cf53 (l := l) hWS8  h) rfl (wkGoodW (List.mem_of_getElem? (i := 5) rfl) (List.mem_of_getElem? (i := 6) rfl) (List.mem_of_getElem? (i := 4) rfl) hbX10_readCode_J9_floorDiv_7cf53 gdJ9_floorDiv_7cf53) (Nat.le_trans (by decide : 0 + 1 ≤ 1) hd) (by decide) ⟨by decide, by decide, by decide +kernel⟩ rfl rfl (Nat.le_of_ble_eq_true rfl) (Nat.le_refl 0) (Nat.le_refl 0) dX10_readCode_28 (fun v' S10 hp => ?_)
        obtain ⟨v9, rfl, h, hWS10, hXS10⟩ := hp
        refine wk_istore_n C (lv' := [some (.ref l0A), none, none, some (.int v9), some (.int l4I)]) dX10_readCode_31 rfl (by decide) rfl ?_
        obtain ⟨x14, ex14, h⟩ := wkLt_some h
        refine wk_iinc C (lv' := [some (.ref l0A), none, none, some (.int v9), some (.int x14)]) dX10_readCode_32 rfl (by rw [ex14]; rfl) (by decide) rfl ?_
        refine wk_goto C (tgt := 7) dX10_readCode_35 (by decide) ?_
        exact wk_forget (lv' := [some (.ref l0A), none, none, some (.int v9), some (.int x14)]) (wkLs.le ⟨rfl, rfl, rfl, trivial⟩) (ih _ _ _ _ hWS10 (wkExt.tr (wkExt.tr (wkExt.tr hE hXS3) hXS8) hXS10) (hXS10 _ _ (hXS8 _ _ (hXS3 _ _ hl0A))) h)
set_option maxHeartbeats 4000000 in
set_option maxRecDepth 100000 in
theorem tX10_readCode {l : Launch} {g : wkG} {F : Nat}  {S : wPS} {l0A : Nat} {l1I : Int32} {l2I : Int32} {Φ : (Int32 → wPS → Prop)} (hW : wkWF S) (hl0A : wkIs S l0A 10) (h : rX10_readCode F l0A l1I l2I S Φ) : wkMet l g yX10_readCode wvX10_readCode 1 0 0 [.ref l0A, .int l1I, .int l2I] S (fun v' S'' => ∃ v : Int32, v' = some (.int v) ∧ Φ v S'' ∧ wkWF S'' ∧ wkExt S S'') := by
  refine wkMet_of (ret := (some .int)) (by decide) rfl (Nat.le_of_ble_eq_true rfl) (fun X hg C hR E => ?_)
  subst hg
  have hE : wkExt S S := wkExt.rf
  have hd : 1 ≤ 1 := Nat.le_refl _
  show wkGo l X 5 0 0 0 S [some (.ref l0A), some (.int l1I), some (.int l2I), none, none] []
  have ih := tX10_readCode_go (F := F) C hR hd E F
  have h : rX10_readCode_s F (rX10_readCode_go F F) l0A l1I l2I S Φ := h
  unfold rX10_readCode_s at h
  refine wk_iload_n C dX10_readCode_0 rfl rfl ?_
  refine wk_istore_n C (lv' := [some (.ref l0A), some (.int l1I), some (.int l2I), some (.int l1I), none]) dX10_readCode_1 rfl (by decide) rfl ?_
  refine wk_iload_n C dX10_readCode_2 rfl rfl ?_
  refine wk_iconst C (v := 1) dX10_readCode_3 (by decide) ?_
  refine wk_isub C dX10_readCode_4 rfl ?_
  obtain ⟨x15, ex15, h⟩ := wkLt_some h
  refine wk_topi ex15 ?_
  refine wk_istore C (lv' := [some (.ref l0A), some (.int l1I), some (.int l2I), some (.int l1I), some (.int x15)]) dX10_readCode_5 (by decide) rfl ?_
  exact wk_forget (lv' := [some (.ref l0A), none, none, some (.int l1I), some (.int x15)]) (wkLs.le ⟨rfl, rfl, rfl, trivial⟩) (ih _ _ _ _ hW hE hl0A h)
def wvX10_isLedWithin : List Cond := .code yX10_isLedWithin cX10_isLedWithin 6 (some .boolean) :: (([.fieldLink RX10 84 "Witnessworks$Words" "lastUsed" "I", .fieldLink RX10 23 "Witnessworks$Words" "ledPoints" "[I", .methodLink RX10 124 yX10_codeOf, .static yX10_codeOf, .initialized RX10, .methodLink RX10 134 yX9_holds, .instanceMethod yX9_holds, .selects RX9 yX9_holds yX9_holds, .initialized RX9, .fieldLink RX10 13 "Witnessworks$Words" "leads" "[[I", .fieldLink RX10 20 "Witnessworks$Words" "points" "[I", .methodLink RX10 131 yX9_at, .instanceMethod yX9_at, .selects RX9 yX9_at yX9_at, .methodLink RX10 158 yX10_readCode, .instanceMethod yX10_readCode, .selects RX10 yX10_readCode yX10_readCode] : List Cond) ++ ((wsX100) ++ (wvX10_codeOf ++ (wvX9_holds ++ (wvX9_at ++ (wvX10_readCode))))))
theorem huX10_isLedWithin_10 : ∀ w ∈ u_ws RX10 TX10 12, w ∈ wvX10_isLedWithin := fun w h => List.mem_cons_of_mem _ (List.mem_append_right _ (List.mem_append_left _ h))
theorem hbX10_isLedWithin_X10_codeOf : ∀ w ∈ wvX10_codeOf, w ∈ wvX10_isLedWithin := fun w h => List.mem_cons_of_mem _ (List.mem_append_right _ (List.mem_append_right _ (List.mem_append_left _ h)))
theorem hbX10_isLedWithin_X9_holds : ∀ w ∈ wvX9_holds, w ∈ wvX10_isLedWithin := fun w h => List.mem_cons_of_mem _ (List.mem_append_right _ (List.mem_append_right _ (List.mem_append_right _ (List.mem_append_left _ h))))
theorem hbX10_isLedWithin_X9_at : ∀ w ∈ wvX9_at, w ∈ wvX10_isLedWithin := fun w h => List.mem_cons_of_mem _ (List.mem_append_right _ (List.mem_append_right _ (List.mem_append_right _ (List.mem_append_right _ (List.mem_append_left _ h)))))
theorem hbX10_isLedWithin_X10_readCode : ∀ w ∈ wvX10_readCode, w ∈ wvX10_isLedWithin := fun w h => List.mem_cons_of_mem _ (List.mem_append_right _ (List.mem_append_right _ (List.mem_append_right _ (List.mem_append_right _ (List.mem_append_right _ h)))))
theorem gdX10_isLedWithin : ∀ w ∈ wvX10_isLedWithin, wkGd w := wkGdC rfl (wkGdA (wkGdL (by decide +kernel)) (wkGdA gdX10 (wkGdA gdX10_codeOf (wkGdA gdX9_holds (wkGdA gdX9_at gdX10_readCode)))))
def rX10_isLedWithin_b0 (F : Nat) (rec : Nat → Nat → Nat → Int32 → Int32 → Int32 → wPS → (Int32 → wPS → Prop) → Prop) (l0A : Nat) (l1A : Nat) (l3I : Int32) (l4I : Int32) (S : wPS) (Φ : (Int32 → wPS → Prop)) : Prop :=
  if (gWords_lastUsed S l0A) < l4I then (Φ (1 : Int32) S) else (rec 1 l0A l1A l3I l4I (0 : Int32) S Φ)
def rX10_isLedWithin_b1 (F : Nat) (rec : Nat → Nat → Nat → Int32 → Int32 → Int32 → wPS → (Int32 → wPS → Prop) → Prop) (l0A : Nat) (l1A : Nat) (l3I : Int32) (l4I : Int32) (l5I : Int32) (S : wPS) (Φ : (Int32 → wPS → Prop)) : Prop :=
  if l3I ≤ l5I then (rX10_codeOf F (wkAd (gWords_ledPoints S l0A)) l3I S fun v3 S4 => rX9_holds F l1A (1 : Int32) v3 S4 fun v8 S9 => if v8 = 0 then (Φ (0 : Int32) S9) else (wkLt (l4I + (1 : Int32)) fun x14 => rec 0 l0A l1A l3I x14 0 S9 Φ)) else (¬ (l4I < 0 ∨ S.len (wkAd (gWords_leads S l0A)) ≤ (l4I).toNatClampNeg) ∧ ¬ (l5I < 0 ∨ S.len (wkAd (gWords_points S l0A)) ≤ (l5I).toNatClampNeg) ∧ ¬ ((S.rI (wkAd (gWords_points S l0A)) (l5I).toNatClampNeg) < 0 ∨ S.len (wkAd (S.rA (wkAd (gWords_leads S l0A)) (l4I).toNatClampNeg)) ≤ ((S.rI (wkAd (gWords_points S l0A)) (l5I).toNatClampNeg)).toNatClampNeg) ∧ ¬ (l5I < 0 ∨ S.len (wkAd (gWords_ledPoints S l0A)) ≤ (l5I).toNatClampNeg) ∧ wkLt (wuI S (wkAd (gWords_ledPoints S l0A)) l5I (S.rI (wkAd (S.rA (wkAd (gWords_leads S l0A)) (l4I).toNatClampNeg)) ((S.rI (wkAd (gWords_points S l0A)) (l5I).toNatClampNeg)).toNatClampNeg)) fun S20 => wkLt (l5I + (1 : Int32)) fun x21 => rec 1 l0A l1A l3I l4I x21 S20 Φ)
def rX10_isLedWithin_go (F : Nat) : Nat → Nat → Nat → Nat → Int32 → Int32 → Int32 → wPS → (Int32 → wPS → Prop) → Prop
  | 0, _, _, _, _, _, _, _, _ => False
  | k' + 1, lab, l0A, l1A, l3I, l4I, l5I, S, Φ => if lab = 0 then rX10_isLedWithin_b0 F (rX10_isLedWithin_go F k') l0A l1A l3I l4I S Φ else if lab = 1 then rX10_isLedWithin_b1 F (rX10_isLedWithin_go F k') l0A l1A l3I l4I l5I S Φ else False
def rX10_isLedWithin_s (F : Nat) (rec : Nat → Nat → Nat → Int32 → Int32 → Int32 → wPS → (Int32 → wPS → Prop) → Prop) (l0A : Nat) (l1A : Nat) (l2I : Int32) (l3I : Int32) (S : wPS) (Φ : (Int32 → wPS → Prop)) : Prop :=
  rX9_at F l1A l2I S fun v22 S23 => rX10_readCode F l0A v22 l3I S23 fun v27 S28 => rec 0 l0A l1A l3I (1 : Int32) 0 S28 Φ
def rX10_isLedWithin (F : Nat) (l0A : Nat) (l1A : Nat) (l2I : Int32) (l3I : Int32) (S : wPS) (Φ : (Int32 → wPS → Prop)) : Prop := rX10_isLedWithin_s F (rX10_isLedWithin_go F F) l0A l1A l2I l3I S Φ
set_option maxHeartbeats 4000000 in
set_option maxRecDepth 100000 in
theorem tX10_isLedWithin_go {l : Launch} {X : wkX} {d F : Nat} {S0 : wPS} {Φ : (Int32 → wPS → Prop)} (C : wkC X cX10_isLedWithin RX10 6 wvX10_isLedWithin) (hR : wkRm X d 0 0) (hd : 2 ≤ d) (E : wkEnd l X cX10_isLedWithin 6 (some .boolean) 0 0 (fun v' S'' => ∃ v : Int32, v' = some (.int v) ∧ Φ v S'' ∧ wkWF S'' ∧ wkExt S0 S'')) : ∀ k' : Nat, (∀ (l0A : Nat) (l1A : Nat) (l3I : Int32) (l4I : Int32) (S : wPS), wkWF S → wkExt S0 S → wkIs S l0A 10 → wkIs S l1A 9 → rX10_isLedWithin_go F k' 0 l0A l1A l3I l4I 0 S Φ → wkGo l X 6 0 0 14 S [some (.ref l0A), some (.ref l1A), none, some (.int l3I), some (.int l4I), none] []) ∧ (∀ (l0A : Nat) (l1A : Nat) (l3I : Int32) (l4I : Int32) (l5I : Int32) (S : wPS), wkWF S → wkExt S0 S → wkIs S l0A 10 → wkIs S l1A 9 → rX10_isLedWithin_go F k' 1 l0A l1A l3I l4I l5I S Φ → wkGo l X 6 0 0 26 S [some (.ref l0A), some (.ref l1A), none, some (.int l3I), some (.int l4I), some (.int l5I)] []) := by
  intro k'
  induction k' with
  | zero => exact ⟨fun l0A l1A l3I l4I S hW hE hl0A hl1A h => h.elim, fun l0A l1A l3I l4I l5I S hW hE hl0A hl1A h => h.elim⟩
  | succ k' ih =>
    refine ⟨?_, ?_⟩
    · intro l0A l1A l3I l4I S hW hE hl0A hl1A h
      have h : rX10_isLedWithin_b0 F (rX10_isLedWithin_go F k') l0A l1A l3I l4I S Φ := by
        rw [rX10_isLedWithin_go, if_pos (rfl : (0 : Nat) = 0)] at h
        exact h
      unfold rX10_isLedWithin_b0 at h
      refine wk_iload C dX10_isLedWithin_14 rfl ?_
      refine wk_aload_n C dX10_isLedWithin_16 rfl rfl ?_
      refine wk_get C (v := .int (gWords_lastUsed S l0A)) huX10_isLedWithin_10 hl0A.1 (fun cy => wAt_10 cy _ hl0A.2) rfl 11 (by decide) (List.mem_of_getElem? (i := 1) rfl) rfl rfl dX10_isLedWithin_17 ?_
      refine wk_icmp_gt C (tgt := 84) dX10_isLedWithin_20 (by decide) (fun c1 => ?_) (fun c1 => ?_)
      · rw [if_pos c1] at h
        refine wk_iconst C (v := 1) dX10_isLedWithin_84 (by decide) ?_
        exact E _ _ _ _ _ _ (Nat.le_refl 0) (Nat.le_refl 0) dX10_isLedWithin_85 rfl ⟨(1 : Int32), rfl, h, hW, hE⟩
      · rw [if_neg c1] at h
        refine wk_iconst C (v := 0) dX10_isLedWithin_23 (by decide) ?_
        refine wk_istore C (lv' := [some (.ref l0A), some (.ref l1A), none, some (.int l3I), some (.int l4I), some (.int (0 : Int32))]) dX10_isLedWithin_24 (by decide) rfl ?_
        exact wk_forget (lv' := [some (.ref l0A), some (.ref l1A), none, some (.int l3I), some (.int l4I), some (.int (0 : Int32))]) (wkLs.le ⟨rfl, rfl, rfl, rfl, rfl, trivial⟩) (ih.2 _ _ _ _ _ _ hW hE hl0A hl1A h)
    · intro l0A l1A l3I l4I l5I S hW hE hl0A hl1A h
      have h : rX10_isLedWithin_b1 F (rX10_isLedWithin_go F k') l0A l1A l3I l4I l5I S Φ := by
        rw [rX10_isLedWithin_go, if_neg (show ¬ (1 : Nat) = 0 by decide), if_pos (rfl : (1 : Nat) = 1)] at h
        exact h
      unfold rX10_isLedWithin_b1 at h
      refine wk_iload C dX10_isLedWithin_26 rfl ?_
      refine wk_iload_n C dX10_isLedWithin_28 rfl rfl ?_
      refine wk_icmp_ge C (tgt := 60) dX10_isLedWithin_29 (by decide) (fun c2 => ?_) (fun c2 => ?_)
      · rw [if_pos c2] at h
        refine wk_aload_n C dX10_isLedWithin_60 rfl rfl ?_
        refine wk_iconst C (v := 1) dX10_isLedWithin_61 (by decide) ?_
        refine wk_aload_n C dX10_isLedWithin_62 rfl rfl ?_
        refine wk_get C huX10_isLedWithin_10 hl0A.1 (fun cy => wAt_10 cy _ hl0A.2) rfl 3 (by decide) (List.mem_of_getElem? (i := 2) rfl) rfl (congrArg some (congrArg va_rf (wf_Words_ledPoints hW hl0A).1)) dX10_isLedWithin_63 ?_
        refine wk_iload_n C dX10_isLedWithin_66 rfl rfl ?_
        refine wk_callW C hR (As := [.ref (wkAd (gWords_ledPoints S l0A)), .int l3I]) (cnt := 2) (tX10_codeOf (l := l) hW (wf_Words_ledPoints hW hl0A).2 h) rfl (wkGoodW (List.mem_of_getElem? (i := 3) rfl) (List.mem_of_getElem? (i := 4) rfl) (List.mem_of_getElem? (i := 5) rfl) hbX10_isLedWithin_X10_codeOf gdX10_codeOf) (Nat.le_trans (by decide : 0 + 1 ≤ 2) hd) (by decide) ⟨by decide, by decide, by decide +kernel⟩ rfl rfl (Nat.le_of_ble_eq_true rfl) (Nat.le_refl 0) (Nat.le_refl 0) dX10_isLedWithin_67 (fun v' S4 hp => ?_)
        obtain ⟨v3, rfl, h, hWS4, hXS4⟩ := hp
        refine wk_callV C hR (As := [.int (1 : Int32), .int v3]) (cnt := 2) (tX9_holds (l := l) hWS4 (hXS4 _ _ hl1A) h) rfl (wkGoodV (List.mem_of_getElem? (i := 6) rfl) (List.mem_of_getElem? (i := 7) rfl) (List.mem_of_getElem? (i := 8) rfl) (List.mem_of_getElem? (i := 9) rfl) hbX10_isLedWithin_X9_holds gdX9_holds) (Nat.le_trans (by decide : 0 + 1 ≤ 2) hd) (by decide) (hXS4 _ _ hl1A).1 (fun cy => wAt_9 cy _ (hXS4 _ _ hl1A).2) rfl ⟨by decide, by decide, by decide +kernel⟩ rfl rfl (Nat.le_of_ble_eq_true rfl) (Nat.le_refl 0) (Nat.le_refl 0) dX10_isLedWithin_70 (fun v' S9 hp => ?_)
        obtain ⟨v8, rfl, h, hWS9, hXS9⟩ := hp
        refine wk_if_ne C (tgt := 78) dX10_isLedWithin_73 (by decide) (fun c13 => ?_) (fun c13 => ?_)
        · rw [if_neg c13] at h
          obtain ⟨x14, ex14, h⟩ := wkLt_some h
          refine wk_iinc C (lv' := [some (.ref l0A), some (.ref l1A), none, some (.int l3I), some (.int x14), some (.int l5I)]) dX10_isLedWithin_78 rfl (by rw [ex14]; rfl) (by decide) rfl ?_
          refine wk_goto C (tgt := 14) dX10_isLedWithin_81 (by decide) ?_
          exact wk_forget (lv' := [some (.ref l0A), some (.ref l1A), none, some (.int l3I), some (.int x14), none]) (wkLs.le ⟨rfl, rfl, rfl, rfl, trivial⟩) (ih.1 _ _ _ _ _ hWS9 (wkExt.tr (wkExt.tr hE hXS4) hXS9) (hXS9 _ _ (hXS4 _ _ hl0A)) (hXS9 _ _ (hXS4 _ _ hl1A)) h)
        · rw [if_pos c13] at h
          refine wk_iconst C (v := 0) dX10_isLedWithin_76 (by decide) ?_
          exact E _ _ _ _ _ _ (Nat.le_refl 0) (Nat.le_refl 0) dX10_isLedWithin_77 rfl ⟨(0 : Int32), rfl, h, hWS9, (wkExt.tr (wkExt.tr hE hXS4) hXS9)⟩
      · rw [if_neg c2] at h
        refine wk_aload_n C dX10_isLedWithin_32 rfl rfl ?_
        refine wk_get C huX10_isLedWithin_10 hl0A.1 (fun cy => wAt_10 cy _ hl0A.2) rfl 3 (by decide) (List.mem_of_getElem? (i := 2) rfl) rfl (congrArg some (congrArg va_rf (wf_Words_ledPoints hW hl0A).1)) dX10_isLedWithin_33 ?_
        refine wk_iload C dX10_isLedWithin_36 rfl ?_
        refine wk_aload_n C dX10_isLedWithin_38 rfl rfl ?_
        refine wk_get C huX10_isLedWithin_10 hl0A.1 (fun cy => wAt_10 cy _ hl0A.2) rfl 0 (by decide) (List.mem_of_getElem? (i := 10) rfl) rfl (congrArg some (congrArg va_rf (wf_Words_leads hW hl0A).1)) dX10_isLedWithin_39 ?_
        refine wk_iload C dX10_isLedWithin_42 rfl ?_
        obtain ⟨i15, h⟩ := h
        have w16 := wf_R_I hW (wf_Words_leads hW hl0A).2 (Nat.not_le.mp fun q => i15 (Or.inr q))
        refine wk_aald_I C (wf_Words_leads hW hl0A).2.1 (wf_Words_leads hW hl0A).2.2 i15 w16.1 dX10_isLedWithin_44 ?_
        refine wk_aload_n C dX10_isLedWithin_45 rfl rfl ?_
        refine wk_get C huX10_isLedWithin_10 hl0A.1 (fun cy => wAt_10 cy _ hl0A.2) rfl 2 (by decide) (List.mem_of_getElem? (i := 11) rfl) rfl (congrArg some (congrArg va_rf (wf_Words_points hW hl0A).1)) dX10_isLedWithin_46 ?_
        refine wk_iload C dX10_isLedWithin_49 rfl ?_
        obtain ⟨i17, h⟩ := h
        refine wk_iald C (wf_Words_points hW hl0A).2.1 (wf_Words_points hW hl0A).2.2 i17 rfl dX10_isLedWithin_51 ?_
        obtain ⟨i18, h⟩ := h
        refine wk_iald C w16.2.1 w16.2.2 i18 rfl dX10_isLedWithin_52 ?_
        obtain ⟨i19, h⟩ := h
        obtain ⟨S20, eS20, h⟩ := wkLt_some h
        refine wk_iast C (wf_Words_ledPoints hW hl0A).2.1 (wf_Words_ledPoints hW hl0A).2.2 i19 eS20.symm dX10_isLedWithin_53 ?_
        have hWS20 : wkWF S20 := by rw [eS20]; exact hW
        have hXS20 : wkExt S S20 := by rw [eS20]; exact wkExt.rf
        obtain ⟨x21, ex21, h⟩ := wkLt_some h
        refine wk_iinc C (lv' := [some (.ref l0A), some (.ref l1A), none, some (.int l3I), some (.int l4I), some (.int x21)]) dX10_isLedWithin_54 rfl (by rw [ex21]; rfl) (by decide) rfl ?_
        refine wk_goto C (tgt := 26) dX10_isLedWithin_57 (by decide) ?_
        exact wk_forget (lv' := [some (.ref l0A), some (.ref l1A), none, some (.int l3I), some (.int l4I), some (.int x21)]) (wkLs.le ⟨rfl, rfl, rfl, rfl, rfl, trivial⟩) (ih.2 _ _ _ _ _ _ hWS20 (wkExt.tr hE hXS20) (hXS20 _ _ hl0A) (hXS20 _ _ hl1A) h)
set_option maxHeartbeats 4000000 in
set_option maxRecDepth 100000 in
theorem tX10_isLedWithin {l : Launch} {g : wkG} {F : Nat}  {S : wPS} {l0A : Nat} {l1A : Nat} {l2I : Int32} {l3I : Int32} {Φ : (Int32 → wPS → Prop)} (hW : wkWF S) (hl0A : wkIs S l0A 10) (hl1A : wkIs S l1A 9) (h : rX10_isLedWithin F l0A l1A l2I l3I S Φ) : wkMet l g yX10_isLedWithin wvX10_isLedWithin 2 0 0 [.ref l0A, .ref l1A, .int l2I, .int l3I] S (fun v' S'' => ∃ v : Int32, v' = some (.int v) ∧ Φ v S'' ∧ wkWF S'' ∧ wkExt S S'') := by
  refine wkMet_of (ret := (some .boolean)) (by decide) rfl (Nat.le_of_ble_eq_true rfl) (fun X hg C hR E => ?_)
  subst hg
  have hE : wkExt S S := wkExt.rf
  have hd : 2 ≤ 2 := Nat.le_refl _
  show wkGo l X 6 0 0 0 S [some (.ref l0A), some (.ref l1A), some (.int l2I), some (.int l3I), none, none] []
  have ih := tX10_isLedWithin_go (F := F) C hR hd E F
  have h : rX10_isLedWithin_s F (rX10_isLedWithin_go F F) l0A l1A l2I l3I S Φ := h
  unfold rX10_isLedWithin_s at h
  refine wk_aload_n C dX10_isLedWithin_0 rfl rfl ?_
  refine wk_aload_n C dX10_isLedWithin_1 rfl rfl ?_
  refine wk_iload_n C dX10_isLedWithin_2 rfl rfl ?_
  refine wk_callV C hR (As := [.int l2I]) (cnt := 1) (tX9_at (l := l) hW hl1A h) rfl (wkGoodV (List.mem_of_getElem? (i := 12) rfl) (List.mem_of_getElem? (i := 13) rfl) (List.mem_of_getElem? (i := 14) rfl) (List.mem_of_getElem? (i := 9) rfl) hbX10_isLedWithin_X9_at gdX9_at) (Nat.le_trans (by decide : 0 + 1 ≤ 2) hd) (by decide) hl1A.1 (fun cy => wAt_9 cy _ hl1A.2) rfl ⟨by decide, by decide, by decide +kernel⟩ rfl rfl (Nat.le_of_ble_eq_true rfl) (Nat.le_refl 0) (Nat.le_refl 0) dX10_isLedWithin_3 (fun v' S23 hp => ?_)
  obtain ⟨v22, rfl, h, hWS23, hXS23⟩ := hp
  refine wk_iload_n C dX10_isLedWithin_6 rfl rfl ?_
  refine wk_callV C hR (As := [.int v22, .int l3I]) (cnt := 2) (tX10_readCode (l := l) hWS23 (hXS23 _ _ hl0A) h) rfl (wkGoodV (List.mem_of_getElem? (i := 15) rfl) (List.mem_of_getElem? (i := 16) rfl) (List.mem_of_getElem? (i := 17) rfl) (List.mem_of_getElem? (i := 5) rfl) hbX10_isLedWithin_X10_readCode gdX10_readCode) (Nat.le_trans (by decide : 1 + 1 ≤ 2) hd) (by decide) (hXS23 _ _ hl0A).1 (fun cy => wAt_10 cy _ (hXS23 _ _ hl0A).2) rfl ⟨by decide, by decide, by decide +kernel⟩ rfl rfl (Nat.le_of_ble_eq_true rfl) (Nat.le_refl 0) (Nat.le_refl 0) dX10_isLedWithin_7 (fun v' S28 hp => ?_)
  obtain ⟨v27, rfl, h, hWS28, hXS28⟩ := hp
  refine wk_pop C dX10_isLedWithin_10 rfl ?_
  refine wk_iconst C (v := 1) dX10_isLedWithin_11 (by decide) ?_
  refine wk_istore C (lv' := [some (.ref l0A), some (.ref l1A), some (.int l2I), some (.int l3I), some (.int (1 : Int32)), none]) dX10_isLedWithin_12 (by decide) rfl ?_
  exact wk_forget (lv' := [some (.ref l0A), some (.ref l1A), none, some (.int l3I), some (.int (1 : Int32)), none]) (wkLs.le ⟨rfl, rfl, rfl, rfl, trivial⟩) (ih.1 _ _ _ _ _ hWS28 (wkExt.tr (wkExt.tr hE hXS23) hXS28) (hXS28 _ _ (hXS23 _ _ hl0A)) (hXS28 _ _ (hXS23 _ _ hl1A)) h)
def wvX10_replaceAll : List Cond := .code yX10_replaceAll cX10_replaceAll 12 none :: (([.methodLink RX10 197 yX10_addNext, .instanceMethod yX10_addNext, .selects RX10 yX10_addNext yX10_addNext, .initialized RX10, .methodLink RX10 194 yX10_lettersOf, .static yX10_lettersOf, .fieldLink RX10 72 "Witnessworks$Entry" "boundNow" "I"] : List Cond) ++ ((wsX30) ++ (wvX10_addNext ++ (wvX10_lettersOf))))
theorem huX10_replaceAll_3 : ∀ w ∈ u_ws RX3 TX3 17, w ∈ wvX10_replaceAll := fun w h => List.mem_cons_of_mem _ (List.mem_append_right _ (List.mem_append_left _ h))
theorem hbX10_replaceAll_X10_addNext : ∀ w ∈ wvX10_addNext, w ∈ wvX10_replaceAll := fun w h => List.mem_cons_of_mem _ (List.mem_append_right _ (List.mem_append_right _ (List.mem_append_left _ h)))
theorem hbX10_replaceAll_X10_lettersOf : ∀ w ∈ wvX10_lettersOf, w ∈ wvX10_replaceAll := fun w h => List.mem_cons_of_mem _ (List.mem_append_right _ (List.mem_append_right _ (List.mem_append_right _ h)))
theorem gdX10_replaceAll : ∀ w ∈ wvX10_replaceAll, wkGd w := wkGdC rfl (wkGdA (wkGdL (by decide +kernel)) (wkGdA gdX3 (wkGdA gdX10_addNext gdX10_lettersOf)))
def rX10_replaceAll_b0 (F : Nat) (rec : Nat → Nat → Int32 → Int32 → Int32 → Int32 → Int32 → Int32 → wPS → (Unit → wPS → Prop) → Prop) (l0A : Nat) (l2I : Int32) (l3I : Int32) (l4I : Int32) (l6I : Int32) (l7I : Int32) (l8I : Int32) (S : wPS) (Φ : (Unit → wPS → Prop)) : Prop :=
  if l8I < 0 then (Φ () S) else (wkLt (((l2I >>> (l8I &&& 31)) &&& (((1 : Int32) <<< (l6I &&& 31)) - (1 : Int32)))) fun x2 => if (x2 + ((1 : Int32) <<< (l6I &&& 31))) = l3I then (wkLt ((l2I >>> ((l8I + l6I) &&& 31))) fun x5 => wkLt ((l4I - ((1 : Int32) <<< (l7I &&& 31)))) fun x6 => rX10_addNext F l0A ((((x5 <<< (l7I &&& 31)) ||| x6) <<< (l8I &&& 31)) ||| (l2I &&& (((1 : Int32) <<< (l8I &&& 31)) - (1 : Int32)))) S fun v7 S8 => wkLt (l8I + (-1 : Int32)) fun x12 => rec 0 l0A l2I l3I l4I l6I l7I x12 S8 Φ) else (wkLt (l8I + (-1 : Int32)) fun x4 => rec 0 l0A l2I l3I l4I l6I l7I x4 S Φ))
def rX10_replaceAll_go (F : Nat) : Nat → Nat → Nat → Int32 → Int32 → Int32 → Int32 → Int32 → Int32 → wPS → (Unit → wPS → Prop) → Prop
  | 0, _, _, _, _, _, _, _, _, _, _ => False
  | k' + 1, lab, l0A, l2I, l3I, l4I, l6I, l7I, l8I, S, Φ => if lab = 0 then rX10_replaceAll_b0 F (rX10_replaceAll_go F k') l0A l2I l3I l4I l6I l7I l8I S Φ else False
def rX10_replaceAll_s (F : Nat) (rec : Nat → Nat → Int32 → Int32 → Int32 → Int32 → Int32 → Int32 → wPS → (Unit → wPS → Prop) → Prop) (l0A : Nat) (l1A : Nat) (l2I : Int32) (l3I : Int32) (l4I : Int32) (S : wPS) (Φ : (Unit → wPS → Prop)) : Prop :=
  rX10_lettersOf F l2I S fun v13 S14 => rX10_lettersOf F l3I S14 fun v18 S19 => rX10_lettersOf F l4I S19 fun v23 S24 => if ((v13 - v18) + v23) ≤ (gEntry_boundNow S24 l1A) then (wkLt ((v13 - v18)) fun x29 => rec 0 l0A l2I l3I l4I v18 v23 x29 S24 Φ) else (Φ () S24)
def rX10_replaceAll (F : Nat) (l0A : Nat) (l1A : Nat) (l2I : Int32) (l3I : Int32) (l4I : Int32) (S : wPS) (Φ : (Unit → wPS → Prop)) : Prop := rX10_replaceAll_s F (rX10_replaceAll_go F F) l0A l1A l2I l3I l4I S Φ
set_option maxHeartbeats 4000000 in
set_option maxRecDepth 100000 in
theorem tX10_replaceAll_go {l : Launch} {X : wkX} {d F : Nat} {S0 : wPS} {Φ : (Unit → wPS → Prop)} (C : wkC X cX10_replaceAll RX10 12 wvX10_replaceAll) (hR : wkRm X d 0 0) (hd : 1 ≤ d) (E : wkEnd l X cX10_replaceAll 12 none 0 0 (fun v' S'' => ∃ v : Unit, v' = none ∧ Φ v S'' ∧ wkWF S'' ∧ wkExt S0 S'')) : ∀ k' : Nat, (∀ (l0A : Nat) (l2I : Int32) (l3I : Int32) (l4I : Int32) (l6I : Int32) (l7I : Int32) (l8I : Int32) (S : wPS), wkWF S → wkExt S0 S → wkIs S l0A 10 → rX10_replaceAll_go F k' 0 l0A l2I l3I l4I l6I l7I l8I S Φ → wkGo l X 12 0 0 42 S [some (.ref l0A), none, some (.int l2I), some (.int l3I), some (.int l4I), none, some (.int l6I), some (.int l7I), some (.int l8I), none, none, none] []) := by
  intro k'
  induction k' with
  | zero => exact fun l0A l2I l3I l4I l6I l7I l8I S hW hE hl0A h => h.elim
  | succ k' ih =>
    · intro l0A l2I l3I l4I l6I l7I l8I S hW hE hl0A h
      have h : rX10_replaceAll_b0 F (rX10_replaceAll_go F k') l0A l2I l3I l4I l6I l7I l8I S Φ := by
        rw [rX10_replaceAll_go, if_pos (rfl : (0 : Nat) = 0)] at h
        exact h
      unfold rX10_replaceAll_b0 at h
      refine wk_iload C dX10_replaceAll_42 rfl ?_
      refine wk_if_lt C (tgt := 119) dX10_replaceAll_44 (by decide) (fun c1 => ?_) (fun c1 => ?_)
      · rw [if_pos c1] at h
        exact E _ _ _ _ _ (Nat.le_refl 0) (Nat.le_refl 0) dX10_replaceAll_119 ⟨(), rfl, h, hW, hE⟩
      · rw [if_neg c1] at h
        refine wk_iload_n C dX10_replaceAll_47 rfl rfl ?_
        refine wk_iload C dX10_replaceAll_48 rfl ?_
        refine wk_ishr C dX10_replaceAll_50 rfl ?_
        refine wk_iconst C (v := 1) dX10_replaceAll_51 (by decide) ?_
        refine wk_iload C dX10_replaceAll_52 rfl ?_
        refine wk_ishl C dX10_replaceAll_54 rfl ?_
        refine wk_iconst C (v := 1) dX10_replaceAll_55 (by decide) ?_
        refine wk_isub C dX10_replaceAll_56 rfl ?_
        refine wk_iand C dX10_replaceAll_57 rfl ?_
        obtain ⟨x2, ex2, h⟩ := wkLt_some h
        refine wk_topi ex2 ?_
        refine wk_istore C (lv' := [some (.ref l0A), none, some (.int l2I), some (.int l3I), some (.int l4I), none, some (.int l6I), some (.int l7I), some (.int l8I), some (.int x2), none, none]) dX10_replaceAll_58 (by decide) rfl ?_
        refine wk_iload C dX10_replaceAll_60 rfl ?_
        refine wk_iconst C (v := 1) dX10_replaceAll_62 (by decide) ?_
        refine wk_iload C dX10_replaceAll_63 rfl ?_
        refine wk_ishl C dX10_replaceAll_65 rfl ?_
        refine wk_iadd C dX10_replaceAll_66 rfl ?_
        refine wk_iload_n C dX10_replaceAll_67 rfl rfl ?_
        refine wk_icmp_ne C (tgt := 113) dX10_replaceAll_68 (by decide) (fun c3 => ?_) (fun c3 => ?_)
        · rw [if_neg c3] at h
          obtain ⟨x4, ex4, h⟩ := wkLt_some h
          refine wk_iinc C (lv' := [some (.ref l0A), none, some (.int l2I), some (.int l3I), some (.int l4I), none, some (.int l6I), some (.int l7I), some (.int x4), some (.int x2), none, none]) dX10_replaceAll_113 rfl (by rw [ex4]; rfl) (by decide) rfl ?_
          refine wk_goto C (tgt := 42) dX10_replaceAll_116 (by decide) ?_
          exact wk_forget (lv' := [some (.ref l0A), none, some (.int l2I), some (.int l3I), some (.int l4I), none, some (.int l6I), some (.int l7I), some (.int x4), none, none, none]) (wkLs.le ⟨rfl, rfl, rfl, rfl, rfl, rfl, rfl, trivial⟩) (ih _ _ _ _ _ _ _ _ hW hE hl0A h)
        · rw [if_pos c3] at h
          refine wk_iload_n C dX10_replaceAll_71 rfl rfl ?_
          refine wk_iload C dX10_replaceAll_72 rfl ?_
          refine wk_iload C dX10_replaceAll_74 rfl ?_
          refine wk_iadd C dX10_replaceAll_76 rfl ?_
          refine wk_ishr C dX10_replaceAll_77 rfl ?_
          obtain ⟨x5, ex5, h⟩ := wkLt_some h
          refine wk_topi ex5 ?_
          refine wk_istore C (lv' := [some (.ref l0A), none, some (.int l2I), some (.int l3I), some (.int l4I), none, some (.int l6I), some (.int l7I), some (.int l8I), some (.int x2), some (.int x5), none]) dX10_replaceAll_78 (by decide) rfl ?_
          refine wk_iload C dX10_replaceAll_80 rfl ?_
          refine wk_iconst C (v := 1) dX10_replaceAll_82 (by decide) ?_
          refine wk_iload C dX10_replaceAll_83 rfl ?_
          refine wk_ishl C dX10_replaceAll_85 rfl ?_
          refine wk_isub C dX10_replaceAll_86 rfl ?_
          obtain ⟨x6, ex6, h⟩ := wkLt_some h
          refine wk_topi ex6 ?_
          refine wk_istore C (lv' := [some (.ref l0A), none, some (.int l2I), some (.int l3I), some (.int l4I), none, some (.int l6I), some (.int l7I), some (.int l8I), some (.int x2), some (.int x5), some (.int x6)]) dX10_replaceAll_87 (by decide) rfl ?_
          refine wk_aload_n C dX10_replaceAll_89 rfl rfl ?_
          refine wk_iload C dX10_replaceAll_90 rfl ?_
          refine wk_iload C dX10_replaceAll_92 rfl ?_
          refine wk_ishl C dX10_replaceAll_94 rfl ?_
          refine wk_iload C dX10_replaceAll_95 rfl ?_
          refine wk_ior C dX10_replaceAll_97 rfl ?_
          refine wk_iload C dX10_replaceAll_98 rfl ?_
          refine wk_ishl C dX10_replaceAll_100 rfl ?_
          refine wk_iload_n C dX10_replaceAll_101 rfl rfl ?_
          refine wk_iconst C (v := 1) dX10_replaceAll_102 (by decide) ?_
          refine wk_iload C dX10_replaceAll_103 rfl ?_
          refine wk_ishl C dX10_replaceAll_105 rfl ?_
          refine wk_iconst C (v := 1) dX10_replaceAll_106 (by decide) ?_
          refine wk_isub C dX10_replaceAll_107 rfl ?_
          refine wk_iand C dX10_replaceAll_108 rfl ?_
          refine wk_ior C dX10_replaceAll_109 rfl ?_
          refine wk_callV C hR (As := [.int ((((x5 <<< (l7I &&& 31)) ||| x6) <<< (l8I &&& 31)) ||| (l2I &&& (((1 : Int32) <<< (l8I &&& 31)) - (1 : Int32))))]) (cnt := 1) (tX10_addNext (l := l) hW hl0A h) rfl (wkGoodV (List.mem_of_getElem? (i := 1) rfl) (List.mem_of_getElem? (i := 2) rfl) (List.mem_of_getElem? (i := 3) rfl) (List.mem_of_getElem? (i := 4) rfl) hbX10_replaceAll_X10_addNext gdX10_addNext) (Nat.le_trans (by decide : 0 + 1 ≤ 1) hd) (by decide) hl0A.1 (fun cy => wAt_10 cy _ hl0A.2) rfl ⟨by decide, by decide, by decide +kernel⟩ rfl rfl (Nat.le_of_ble_eq_true rfl) (Nat.le_refl 0) (Nat.le_refl 0) dX10_replaceAll_110 (fun v' S8 hp => ?_)
          obtain ⟨v7, rfl, h, hWS8, hXS8⟩ := hp
          obtain ⟨x12, ex12, h⟩ := wkLt_some h
          refine wk_iinc C (lv' := [some (.ref l0A), none, some (.int l2I), some (.int l3I), some (.int l4I), none, some (.int l6I), some (.int l7I), some (.int x12), some (.int x2), some (.int x5), some (.int x6)]) dX10_replaceAll_113 rfl (by rw [ex12]; rfl) (by decide) rfl ?_
          refine wk_goto C (tgt := 42) dX10_replaceAll_116 (by decide) ?_
          exact wk_forget (lv' := [some (.ref l0A), none, some (.int l2I), some (.int l3I), some (.int l4I), none, some (.int l6I), some (.int l7I), some (.int x12), none, none, none]) (wkLs.le ⟨rfl, rfl, rfl, rfl, rfl, rfl, rfl, trivial⟩) (ih _ _ _ _ _ _ _ _ hWS8 (wkExt.tr hE hXS8) (hXS8 _ _ hl0A) h)
set_option maxHeartbeats 4000000 in
set_option maxRecDepth 100000 in
theorem tX10_replaceAll {l : Launch} {g : wkG} {F : Nat}  {S : wPS} {l0A : Nat} {l1A : Nat} {l2I : Int32} {l3I : Int32} {l4I : Int32} {Φ : (Unit → wPS → Prop)} (hW : wkWF S) (hl0A : wkIs S l0A 10) (hl1A : wkIs S l1A 3) (h : rX10_replaceAll F l0A l1A l2I l3I l4I S Φ) : wkMet l g yX10_replaceAll wvX10_replaceAll 1 0 0 [.ref l0A, .ref l1A, .int l2I, .int l3I, .int l4I] S (fun v' S'' => ∃ v : Unit, v' = none ∧ Φ v S'' ∧ wkWF S'' ∧ wkExt S S'') := by
  refine wkMet_of (ret := none) (by decide) rfl (Nat.le_of_ble_eq_true rfl) (fun X hg C hR E => ?_)
  subst hg
  have hE : wkExt S S := wkExt.rf
  have hd : 1 ≤ 1 := Nat.le_refl _
  show wkGo l X 12 0 0 0 S [some (.ref l0A), some (.ref l1A), some (.int l2I), some (.int l3I), some (.int l4I), none, none, none, none, none, none, none] []
  have ih := tX10_replaceAll_go (F := F) C hR hd E F
  have h : rX10_replaceAll_s F (rX10_replaceAll_go F F) l0A l1A l2I l3I l4I S Φ := h
  unfold rX10_replaceAll_s at h
  refine wk_iload_n C dX10_replaceAll_0 rfl rfl ?_
  refine wk_callW C hR (As := [.int l2I]) (cnt := 1) (tX10_lettersOf (l := l) hW  h) rfl (wkGoodW (List.mem_of_getElem? (i := 5) rfl) (List.mem_of_getElem? (i := 6) rfl) (List.mem_of_getElem? (i := 4) rfl) hbX10_replaceAll_X10_lettersOf gdX10_lettersOf) (Nat.le_trans (by decide : 0 + 1 ≤ 1) hd) (by decide) ⟨by decide, by decide, by decide +kernel⟩ rfl rfl (Nat.le_of_ble_eq_true rfl) (Nat.le_refl 0) (Nat.le_refl 0) dX10_replaceAll_1 (fun v' S14 hp => ?_)
  obtain ⟨v13, rfl, h, hWS14, hXS14⟩ := hp
  refine wk_istore C (lv' := [some (.ref l0A), some (.ref l1A), some (.int l2I), some (.int l3I), some (.int l4I), some (.int v13), none, none, none, none, none, none]) dX10_replaceAll_4 (by decide) rfl ?_
  refine wk_iload_n C dX10_replaceAll_6 rfl rfl ?_
  refine wk_callW C hR (As := [.int l3I]) (cnt := 1) (tX10_lettersOf (l := l) hWS14  h) rfl (wkGoodW (List.mem_of_getElem? (i := 5) rfl) (List.mem_of_getElem? (i := 6) rfl) (List.mem_of_getElem? (i := 4) rfl) hbX10_replaceAll_X10_lettersOf gdX10_lettersOf) (Nat.le_trans (by decide : 0 + 1 ≤ 1) hd) (by decide) ⟨by decide, by decide, by decide +kernel⟩ rfl rfl (Nat.le_of_ble_eq_true rfl) (Nat.le_refl 0) (Nat.le_refl 0) dX10_replaceAll_7 (fun v' S19 hp => ?_)
  obtain ⟨v18, rfl, h, hWS19, hXS19⟩ := hp
  refine wk_istore C (lv' := [some (.ref l0A), some (.ref l1A), some (.int l2I), some (.int l3I), some (.int l4I), some (.int v13), some (.int v18), none, none, none, none, none]) dX10_replaceAll_10 (by decide) rfl ?_
  refine wk_iload C dX10_replaceAll_12 rfl ?_
  refine wk_callW C hR (As := [.int l4I]) (cnt := 1) (tX10_lettersOf (l := l) hWS19  h) rfl (wkGoodW (List.mem_of_getElem? (i := 5) rfl) (List.mem_of_getElem? (i := 6) rfl) (List.mem_of_getElem? (i := 4) rfl) hbX10_replaceAll_X10_lettersOf gdX10_lettersOf) (Nat.le_trans (by decide : 0 + 1 ≤ 1) hd) (by decide) ⟨by decide, by decide, by decide +kernel⟩ rfl rfl (Nat.le_of_ble_eq_true rfl) (Nat.le_refl 0) (Nat.le_refl 0) dX10_replaceAll_14 (fun v' S24 hp => ?_)
  obtain ⟨v23, rfl, h, hWS24, hXS24⟩ := hp
  refine wk_istore C (lv' := [some (.ref l0A), some (.ref l1A), some (.int l2I), some (.int l3I), some (.int l4I), some (.int v13), some (.int v18), some (.int v23), none, none, none, none]) dX10_replaceAll_17 (by decide) rfl ?_
  refine wk_iload C dX10_replaceAll_19 rfl ?_
  refine wk_iload C dX10_replaceAll_21 rfl ?_
  refine wk_isub C dX10_replaceAll_23 rfl ?_
  refine wk_iload C dX10_replaceAll_24 rfl ?_
  refine wk_iadd C dX10_replaceAll_26 rfl ?_
  refine wk_aload_n C dX10_replaceAll_27 rfl rfl ?_
  refine wk_get C (v := .int (gEntry_boundNow S24 l1A)) huX10_replaceAll_3 (hXS24 _ _ (hXS19 _ _ (hXS14 _ _ hl1A))).1 (fun cy => wAt_3 cy _ (hXS24 _ _ (hXS19 _ _ (hXS14 _ _ hl1A))).2) rfl 8 (by decide) (List.mem_of_getElem? (i := 7) rfl) rfl rfl dX10_replaceAll_28 ?_
  refine wk_icmp_le C (tgt := 35) dX10_replaceAll_31 (by decide) (fun c28 => ?_) (fun c28 => ?_)
  · rw [if_pos c28] at h
    refine wk_iload C dX10_replaceAll_35 rfl ?_
    refine wk_iload C dX10_replaceAll_37 rfl ?_
    refine wk_isub C dX10_replaceAll_39 rfl ?_
    obtain ⟨x29, ex29, h⟩ := wkLt_some h
    refine wk_topi ex29 ?_
    refine wk_istore C (lv' := [some (.ref l0A), some (.ref l1A), some (.int l2I), some (.int l3I), some (.int l4I), some (.int v13), some (.int v18), some (.int v23), some (.int x29), none, none, none]) dX10_replaceAll_40 (by decide) rfl ?_
    exact wk_forget (lv' := [some (.ref l0A), none, some (.int l2I), some (.int l3I), some (.int l4I), none, some (.int v18), some (.int v23), some (.int x29), none, none, none]) (wkLs.le ⟨rfl, rfl, rfl, rfl, rfl, rfl, rfl, trivial⟩) (ih _ _ _ _ _ _ _ _ hWS24 (wkExt.tr (wkExt.tr (wkExt.tr hE hXS14) hXS19) hXS24) (hXS24 _ _ (hXS19 _ _ (hXS14 _ _ hl0A))) h)
  · rw [if_neg c28] at h
    exact E _ _ _ _ _ (Nat.le_refl 0) (Nat.le_refl 0) dX10_replaceAll_34 ⟨(), rfl, h, hWS24, (wkExt.tr (wkExt.tr (wkExt.tr hE hXS14) hXS19) hXS24)⟩
