def wvX1_codeOf : List Cond := .code yX1_codeOf cX1_codeOf 5 (some .int) :: (([.methodLink RX1 79 yX3_at, .instanceMethod yX3_at, .selects RX3 yX3_at yX3_at, .initialized RX3] : List Cond) ++ (([]) ++ (wvX3_at)))
theorem hbX1_codeOf_X3_at : ∀ w ∈ wvX3_at, w ∈ wvX1_codeOf := fun w h => List.mem_cons_of_mem _ (List.mem_append_right _ (List.mem_append_right _ h))
theorem gdX1_codeOf : ∀ w ∈ wvX1_codeOf, wkGd w := wkGdC rfl (wkGdA (wkGdL (by decide +kernel)) (wkGdA (fun _ h => absurd h List.not_mem_nil) gdX3_at))
def rX1_codeOf_b0 (F : Nat) (rec : Nat → Nat → Int32 → Int32 → Int32 → wPS → (Int32 → wPS → Prop) → Prop) (l0A : Nat) (l1I : Int32) (l2I : Int32) (l3I : Int32) (S : wPS) (Φ : (Int32 → wPS → Prop)) : Prop :=
  if (3 : Int32) ≤ l3I then (Φ l2I S) else (rX3_at F l0A l1I l3I S fun v2 S3 => if v2 ≤ 0 then (if 0 ≤ v2 then (wkLt (l3I + (1 : Int32)) fun x9 => rec 0 l0A l1I l2I x9 S3 Φ) else (wkLt ((l2I ||| ((64 : Int32) <<< (((-v2) - (1 : Int32)) &&& 31)))) fun x10 => wkLt (l3I + (1 : Int32)) fun x11 => rec 0 l0A l1I x10 x11 S3 Φ)) else (wkLt ((l2I ||| ((1 : Int32) <<< ((v2 - (1 : Int32)) &&& 31)))) fun x12 => wkLt (l3I + (1 : Int32)) fun x13 => rec 0 l0A l1I x12 x13 S3 Φ))
def rX1_codeOf_go (F : Nat) : Nat → Nat → Nat → Int32 → Int32 → Int32 → wPS → (Int32 → wPS → Prop) → Prop
  | 0, _, _, _, _, _, _, _ => False
  | k' + 1, lab, l0A, l1I, l2I, l3I, S, Φ => if lab = 0 then rX1_codeOf_b0 F (rX1_codeOf_go F k') l0A l1I l2I l3I S Φ else False
def rX1_codeOf_s (F : Nat) (rec : Nat → Nat → Int32 → Int32 → Int32 → wPS → (Int32 → wPS → Prop) → Prop) (l0A : Nat) (l1I : Int32) (S : wPS) (Φ : (Int32 → wPS → Prop)) : Prop :=
  rec 0 l0A l1I (0 : Int32) (0 : Int32) S Φ
def rX1_codeOf (F : Nat) (l0A : Nat) (l1I : Int32) (S : wPS) (Φ : (Int32 → wPS → Prop)) : Prop := rX1_codeOf_s F (rX1_codeOf_go F F) l0A l1I S Φ
set_option maxHeartbeats 4000000 in
set_option maxRecDepth 100000 in
theorem tX1_codeOf_go {l : Launch} {X : wkX} {d F : Nat} {S0 : wPS} {Φ : (Int32 → wPS → Prop)} (C : wkC X cX1_codeOf RX1 5 wvX1_codeOf) (hR : wkRm X d 0 0) (hd : 1 ≤ d) (E : wkEnd l X cX1_codeOf 5 (some .int) 0 0 (fun v' S'' => ∃ v : Int32, v' = some (.int v) ∧ Φ v S'' ∧ wkWF S'' ∧ wkExt S0 S'')) : ∀ k' : Nat, (∀ (l0A : Nat) (l1I : Int32) (l2I : Int32) (l3I : Int32) (S : wPS), wkWF S → wkExt S0 S → wkIs S l0A 3 → rX1_codeOf_go F k' 0 l0A l1I l2I l3I S Φ → wkGo l X 5 0 0 4 S [some (.ref l0A), some (.int l1I), some (.int l2I), some (.int l3I), none] []) := by
  intro k'
  induction k' with
  | zero => exact fun l0A l1I l2I l3I S hW hE hl0A h => h.elim
  | succ k' ih =>
    · intro l0A l1I l2I l3I S hW hE hl0A h
      have h : rX1_codeOf_b0 F (rX1_codeOf_go F k') l0A l1I l2I l3I S Φ := by
        rw [rX1_codeOf_go, if_pos (rfl : (0 : Nat) = 0)] at h
        exact h
      unfold rX1_codeOf_b0 at h
      refine wk_iload_n C dX1_codeOf_4 rfl rfl ?_
      refine wk_iconst C (v := 3) dX1_codeOf_5 (by decide) ?_
      refine wk_icmp_ge C (tgt := 56) dX1_codeOf_6 (by decide) (fun c1 => ?_) (fun c1 => ?_)
      · rw [if_pos c1] at h
        refine wk_iload_n C dX1_codeOf_56 rfl rfl ?_
        exact E _ _ _ _ _ _ (Nat.le_refl 0) (Nat.le_refl 0) dX1_codeOf_57 ⟨l2I, rfl, h, hW, hE⟩
      · rw [if_neg c1] at h
        refine wk_aload_n C dX1_codeOf_9 rfl rfl ?_
        refine wk_iload_n C dX1_codeOf_10 rfl rfl ?_
        refine wk_iload_n C dX1_codeOf_11 rfl rfl ?_
        refine wk_callV C hR (As := [.int l1I, .int l3I]) (cnt := 2) (tX3_at (l := l) hW hl0A h) rfl (wkGoodV (List.mem_of_getElem? (i := 1) rfl) (List.mem_of_getElem? (i := 2) rfl) (List.mem_of_getElem? (i := 3) rfl) (List.mem_of_getElem? (i := 4) rfl) hbX1_codeOf_X3_at gdX3_at) (Nat.le_trans (by decide : 0 + 1 ≤ 1) hd) (by decide) hl0A.1 (fun cy => wAt_3 cy _ hl0A.2) rfl ⟨by decide, by decide, by decide +kernel⟩ rfl rfl (Nat.le_of_ble_eq_true rfl) (Nat.le_refl 0) (Nat.le_refl 0) dX1_codeOf_12 (fun v' S3 hp => ?_)
        obtain ⟨v2, rfl, h, hWS3, hXS3⟩ := hp
        refine wk_istore C (lv' := [some (.ref l0A), some (.int l1I), some (.int l2I), some (.int l3I), some (.int v2)]) dX1_codeOf_15 (by decide) rfl ?_
        refine wk_iload C dX1_codeOf_17 rfl ?_
        refine wk_if_le C (tgt := 34) dX1_codeOf_19 (by decide) (fun c7 => ?_) (fun c7 => ?_)
        · rw [if_pos c7] at h
          refine wk_iload C dX1_codeOf_34 rfl ?_
          refine wk_if_ge C (tgt := 50) dX1_codeOf_36 (by decide) (fun c8 => ?_) (fun c8 => ?_)
          · rw [if_pos c8] at h
            obtain ⟨x9, ex9, h⟩ := wkLt_some h
            refine wk_iinc C (lv' := [some (.ref l0A), some (.int l1I), some (.int l2I), some (.int x9), some (.int v2)]) dX1_codeOf_50 rfl (by rw [ex9]; rfl) (by decide) rfl ?_
            refine wk_goto C (tgt := 4) dX1_codeOf_53 (by decide) ?_
            exact wk_forget (lv' := [some (.ref l0A), some (.int l1I), some (.int l2I), some (.int x9), none]) (wkLs.le ⟨rfl, rfl, rfl, rfl, trivial⟩) (ih _ _ _ _ _ hWS3 (wkExt.tr hE hXS3) (hXS3 _ _ hl0A) h)
          · rw [if_neg c8] at h
            refine wk_iload_n C dX1_codeOf_39 rfl rfl ?_
            refine wk_bipush C (v := 64) dX1_codeOf_40 (by decide) ?_
            refine wk_iload C dX1_codeOf_42 rfl ?_
            refine wk_ineg C dX1_codeOf_44 rfl ?_
            refine wk_iconst C (v := 1) dX1_codeOf_45 (by decide) ?_
            refine wk_isub C dX1_codeOf_46 rfl ?_
            refine wk_ishl C dX1_codeOf_47 rfl ?_
            refine wk_ior C dX1_codeOf_48 rfl ?_
            obtain ⟨x10, ex10, h⟩ := wkLt_some h
            refine wk_topi ex10 ?_
            refine wk_istore_n C (lv' := [some (.ref l0A), some (.int l1I), some (.int x10), some (.int l3I), some (.int v2)]) dX1_codeOf_49 rfl (by decide) rfl ?_
            obtain ⟨x11, ex11, h⟩ := wkLt_some h
            refine wk_iinc C (lv' := [some (.ref l0A), some (.int l1I), some (.int x10), some (.int x11), some (.int v2)]) dX1_codeOf_50 rfl (by rw [ex11]; rfl) (by decide) rfl ?_
            refine wk_goto C (tgt := 4) dX1_codeOf_53 (by decide) ?_
            exact wk_forget (lv' := [some (.ref l0A), some (.int l1I), some (.int x10), some (.int x11), none]) (wkLs.le ⟨rfl, rfl, rfl, rfl, trivial⟩) (ih _ _ _ _ _ hWS3 (wkExt.tr hE hXS3) (hXS3 _ _ hl0A) h)
        · rw [if_neg c7] at h
          refine wk_iload_n C dX1_codeOf_22 rfl rfl ?_
          refine wk_iconst C (v := 1) dX1_codeOf_23 (by decide) ?_
          refine wk_iload C dX1_codeOf_24 rfl ?_
          refine wk_iconst C (v := 1) dX1_codeOf_26 (by decide) ?_
          refine wk_isub C dX1_codeOf_27 rfl ?_
          refine wk_ishl C dX1_codeOf_28 rfl ?_
          refine wk_ior C dX1_codeOf_29 rfl ?_
          obtain ⟨x12, ex12, h⟩ := wkLt_some h
          refine wk_topi ex12 ?_
          refine wk_istore_n C (lv' := [some (.ref l0A), some (.int l1I), some (.int x12), some (.int l3I), some (.int v2)]) dX1_codeOf_30 rfl (by decide) rfl ?_
          refine wk_goto C (tgt := 50) dX1_codeOf_31 (by decide) ?_
          obtain ⟨x13, ex13, h⟩ := wkLt_some h
          refine wk_iinc C (lv' := [some (.ref l0A), some (.int l1I), some (.int x12), some (.int x13), some (.int v2)]) dX1_codeOf_50 rfl (by rw [ex13]; rfl) (by decide) rfl ?_
          refine wk_goto C (tgt := 4) dX1_codeOf_53 (by decide) ?_
          exact wk_forget (lv' := [some (.ref l0A), some (.int l1I), some (.int x12), some (.int x13), none]) (wkLs.le ⟨rfl, rfl, rfl, rfl, trivial⟩) (ih _ _ _ _ _ hWS3 (wkExt.tr hE hXS3) (hXS3 _ _ hl0A) h)
set_option maxHeartbeats 4000000 in
set_option maxRecDepth 100000 in
theorem tX1_codeOf {l : Launch} {g : wkG} {F : Nat}  {S : wPS} {l0A : Nat} {l1I : Int32} {Φ : (Int32 → wPS → Prop)} (hW : wkWF S) (hl0A : wkIs S l0A 3) (h : rX1_codeOf F l0A l1I S Φ) : wkMet l g yX1_codeOf wvX1_codeOf 1 0 0 [.ref l0A, .int l1I] S (fun v' S'' => ∃ v : Int32, v' = some (.int v) ∧ Φ v S'' ∧ wkWF S'' ∧ wkExt S S'') := by
  refine wkMet_of (ret := (some .int)) (by decide) rfl (Nat.le_of_ble_eq_true rfl) (fun X hg C hR E => ?_)
  subst hg
  have hE : wkExt S S := wkExt.rf
  have hd : 1 ≤ 1 := Nat.le_refl _
  show wkGo l X 5 0 0 0 S [some (.ref l0A), some (.int l1I), none, none, none] []
  have ih := tX1_codeOf_go (F := F) C hR hd E F
  have h : rX1_codeOf_s F (rX1_codeOf_go F F) l0A l1I S Φ := h
  unfold rX1_codeOf_s at h
  refine wk_iconst C (v := 0) dX1_codeOf_0 (by decide) ?_
  refine wk_istore_n C (lv' := [some (.ref l0A), some (.int l1I), some (.int (0 : Int32)), none, none]) dX1_codeOf_1 rfl (by decide) rfl ?_
  refine wk_iconst C (v := 0) dX1_codeOf_2 (by decide) ?_
  refine wk_istore_n C (lv' := [some (.ref l0A), some (.int l1I), some (.int (0 : Int32)), some (.int (0 : Int32)), none]) dX1_codeOf_3 rfl (by decide) rfl ?_
  exact wk_forget (lv' := [some (.ref l0A), some (.int l1I), some (.int (0 : Int32)), some (.int (0 : Int32)), none]) (wkLs.le ⟨rfl, rfl, rfl, rfl, trivial⟩) (ih _ _ _ _ _ hW hE hl0A h)
def wvX1_isLeaf : List Cond := .code yX1_isLeaf cX1_isLeaf 3 (some .boolean) :: (([.fieldLink RX1 47 "Witnessworks$Clauses" "ones" "I", .methodLink RX1 54 yJ6_bitCount_0f7a4, .static yJ6_bitCount_0f7a4, .initialized RJ6, .fieldLink RX1 60 "Witnessworks$Entry" "boundNow" "I", .methodLink RX1 76 yX1_isBroken, .instanceMethod yX1_isBroken, .selects RX1 yX1_isBroken yX1_isBroken, .initialized RX1] : List Cond) ++ ((wsX10 ++ (wsX30)) ++ (wvJ6_bitCount_0f7a4 ++ (wvX1_isBroken))))
theorem huX1_isLeaf_1 : ∀ w ∈ u_ws RX1 TX1 7, w ∈ wvX1_isLeaf := fun w h => List.mem_cons_of_mem _ (List.mem_append_right _ (List.mem_append_left _ (List.mem_append_left _ h)))
theorem huX1_isLeaf_3 : ∀ w ∈ u_ws RX3 TX3 17, w ∈ wvX1_isLeaf := fun w h => List.mem_cons_of_mem _ (List.mem_append_right _ (List.mem_append_left _ (List.mem_append_right _ h)))
theorem hbX1_isLeaf_J6_bitCount_0f7a4 : ∀ w ∈ wvJ6_bitCount_0f7a4, w ∈ wvX1_isLeaf := fun w h => List.mem_cons_of_mem _ (List.mem_append_right _ (List.mem_append_right _ (List.mem_append_left _ h)))
theorem hbX1_isLeaf_X1_isBroken : ∀ w ∈ wvX1_isBroken, w ∈ wvX1_isLeaf := fun w h => List.mem_cons_of_mem _ (List.mem_append_right _ (List.mem_append_right _ (List.mem_append_right _ h)))
theorem gdX1_isLeaf : ∀ w ∈ wvX1_isLeaf, wkGd w := wkGdC rfl (wkGdA (wkGdL (by decide +kernel)) (wkGdA (wkGdA gdX1 gdX3) (wkGdA gdJ6_bitCount_0f7a4 gdX1_isBroken)))
def rX1_isLeaf (F : Nat) (l0A : Nat) (l1A : Nat) (l2I : Int32) (S : wPS) (Φ : (Int32 → wPS → Prop)) : Prop :=
  if l2I < 0 then (rJ6_bitCount_0f7a4 F (gClauses_ones S l0A) S fun v2 S3 => if v2 ≤ (gEntry_boundNow S3 l1A) then (Φ (0 : Int32) S3) else (Φ (1 : Int32) S3)) else (rX1_isBroken F l0A l1A l2I S fun v8 S9 => (v8 = 0 ∨ v8 = 1) ∧ Φ v8 S9)
set_option maxHeartbeats 4000000 in
set_option maxRecDepth 100000 in
theorem tX1_isLeaf {l : Launch} {g : wkG} {F : Nat}  {S : wPS} {l0A : Nat} {l1A : Nat} {l2I : Int32} {Φ : (Int32 → wPS → Prop)} (hW : wkWF S) (hl0A : wkIs S l0A 1) (hl1A : wkIs S l1A 3) (h : rX1_isLeaf F l0A l1A l2I S Φ) : wkMet l g yX1_isLeaf wvX1_isLeaf 2 0 0 [.ref l0A, .ref l1A, .int l2I] S (fun v' S'' => ∃ v : Int32, v' = some (.int v) ∧ Φ v S'' ∧ wkWF S'' ∧ wkExt S S'') := by
  refine wkMet_of (ret := (some .boolean)) (by decide) rfl (Nat.le_of_ble_eq_true rfl) (fun X hg C hR E => ?_)
  subst hg
  have hE : wkExt S S := wkExt.rf
  have hd : 2 ≤ 2 := Nat.le_refl _
  show wkGo l X 3 0 0 0 S [some (.ref l0A), some (.ref l1A), some (.int l2I)] []
  unfold rX1_isLeaf at h
  refine wk_iload_n C dX1_isLeaf_0 rfl rfl ?_
  refine wk_if_lt C (tgt := 11) dX1_isLeaf_1 (by decide) (fun c1 => ?_) (fun c1 => ?_)
  · rw [if_pos c1] at h
    refine wk_aload_n C dX1_isLeaf_11 rfl rfl ?_
    refine wk_get C (v := .int (gClauses_ones S l0A)) huX1_isLeaf_1 hl0A.1 (fun cy => wAt_1 cy _ hl0A.2) rfl 5 (by decide) (List.mem_of_getElem? (i := 1) rfl) rfl rfl dX1_isLeaf_12 ?_
    refine wk_callW C hR (As := [.int (gClauses_ones S l0A)]) (cnt := 1) (tJ6_bitCount_0f7a4 (l := l) hW  h) rfl (wkGoodW (List.mem_of_getElem? (i := 2) rfl) (List.mem_of_getElem? (i := 3) rfl) (List.mem_of_getElem? (i := 4) rfl) hbX1_isLeaf_J6_bitCount_0f7a4 gdJ6_bitCount_0f7a4) (Nat.le_trans (by decide : 0 + 1 ≤ 2) hd) (by decide) ⟨by decide, by decide, by decide +kernel⟩ rfl rfl (Nat.le_of_ble_eq_true rfl) (Nat.le_refl 0) (Nat.le_refl 0) dX1_isLeaf_15 (fun v' S3 hp => ?_)
    obtain ⟨v2, rfl, h, hWS3, hXS3⟩ := hp
    refine wk_aload_n C dX1_isLeaf_18 rfl rfl ?_
    refine wk_get C (v := .int (gEntry_boundNow S3 l1A)) huX1_isLeaf_3 (hXS3 _ _ hl1A).1 (fun cy => wAt_3 cy _ (hXS3 _ _ hl1A).2) rfl 8 (by decide) (List.mem_of_getElem? (i := 5) rfl) rfl rfl dX1_isLeaf_19 ?_
    refine wk_icmp_le C (tgt := 29) dX1_isLeaf_22 (by decide) (fun c7 => ?_) (fun c7 => ?_)
    · rw [if_pos c7] at h
      refine wk_iconst C (v := 0) dX1_isLeaf_29 (by decide) ?_
      exact E _ _ _ _ _ _ (Nat.le_refl 0) (Nat.le_refl 0) dX1_isLeaf_30 rfl ⟨(0 : Int32), rfl, h, hWS3, (wkExt.tr hE hXS3)⟩
    · rw [if_neg c7] at h
      refine wk_iconst C (v := 1) dX1_isLeaf_25 (by decide) ?_
      refine wk_goto C (tgt := 30) dX1_isLeaf_26 (by decide) ?_
      exact E _ _ _ _ _ _ (Nat.le_refl 0) (Nat.le_refl 0) dX1_isLeaf_30 rfl ⟨(1 : Int32), rfl, h, hWS3, (wkExt.tr hE hXS3)⟩
  · rw [if_neg c1] at h
    refine wk_aload_n C dX1_isLeaf_4 rfl rfl ?_
    refine wk_aload_n C dX1_isLeaf_5 rfl rfl ?_
    refine wk_iload_n C dX1_isLeaf_6 rfl rfl ?_
    refine wk_callV C hR (As := [.ref l1A, .int l2I]) (cnt := 2) (tX1_isBroken (l := l) hW hl0A hl1A h) rfl (wkGoodV (List.mem_of_getElem? (i := 6) rfl) (List.mem_of_getElem? (i := 7) rfl) (List.mem_of_getElem? (i := 8) rfl) (List.mem_of_getElem? (i := 9) rfl) hbX1_isLeaf_X1_isBroken gdX1_isBroken) (Nat.le_trans (by decide : 1 + 1 ≤ 2) hd) (by decide) hl0A.1 (fun cy => wAt_1 cy _ hl0A.2) rfl ⟨by decide, by decide, by decide +kernel⟩ rfl rfl (Nat.le_of_ble_eq_true rfl) (Nat.le_refl 0) (Nat.le_refl 0) dX1_isLeaf_7 (fun v' S9 hp => ?_)
    obtain ⟨v8, rfl, h, hWS9, hXS9⟩ := hp
    obtain ⟨b13, h⟩ := h
    exact E _ _ _ _ _ _ (Nat.le_refl 0) (Nat.le_refl 0) dX1_isLeaf_10 (wkNarZ b13) ⟨v8, rfl, h, hWS9, (wkExt.tr hE hXS9)⟩
def wvX2_countWalksDue : List Cond := .code yX2_countWalksDue cX2_countWalksDue 9 (some .int) :: (([.fieldLink RX2 9 "Witnessworks$Drawings" "near" "[I", .methodLink RX2 100 yJ6_bitCount_0f7a4, .static yJ6_bitCount_0f7a4, .initialized RJ6, .static yX11_hangingTogether, .initialized RX11] : List Cond) ++ ((wsX20) ++ (wvJ6_bitCount_0f7a4 ++ (wvX11_hangingTogether))))
theorem huX2_countWalksDue_2 : ∀ w ∈ u_ws RX2 TX2 10, w ∈ wvX2_countWalksDue := fun w h => List.mem_cons_of_mem _ (List.mem_append_right _ (List.mem_append_left _ h))
theorem hbX2_countWalksDue_J6_bitCount_0f7a4 : ∀ w ∈ wvJ6_bitCount_0f7a4, w ∈ wvX2_countWalksDue := fun w h => List.mem_cons_of_mem _ (List.mem_append_right _ (List.mem_append_right _ (List.mem_append_left _ h)))
theorem hbX2_countWalksDue_X11_hangingTogether : ∀ w ∈ wvX11_hangingTogether, w ∈ wvX2_countWalksDue := fun w h => List.mem_cons_of_mem _ (List.mem_append_right _ (List.mem_append_right _ (List.mem_append_right _ h)))
theorem gdX2_countWalksDue : ∀ w ∈ wvX2_countWalksDue, wkGd w := wkGdC rfl (wkGdA (wkGdL (by decide +kernel)) (wkGdA gdX2 (wkGdA gdJ6_bitCount_0f7a4 gdX11_hangingTogether)))
def rX2_countWalksDue_b0 (F : Nat) (rec : Nat → Nat → Int32 → Int32 → Int32 → Int32 → Int32 → Int32 → Int32 → wPS → (Int32 → wPS → Prop) → Prop) (l0A : Nat) (l1I : Int32) (l2I : Int32) (l3I : Int32) (l4I : Int32) (l5I : Int32) (l6I : Int32) (l7I : Int32) (S : wPS) (Φ : (Int32 → wPS → Prop)) : Prop :=
  if l1I < l7I then (Φ (((l3I / (2 : Int32)) - l4I) + ((2 : Int32) * l5I)) S) else (¬ (l7I < 0 ∨ S.len (wkAd (gDrawings_near S l0A)) ≤ (l7I).toNatClampNeg) ∧ rJ6_bitCount_0f7a4 F ((S.rI (wkAd (gDrawings_near S l0A)) (l7I).toNatClampNeg) &&& l2I) S fun v3 S4 => wkLt ((l3I + v3)) fun x8 => if v3 ≤ 0 then (wkLt (l7I + (1 : Int32)) fun x10 => rec 0 l0A l1I l2I x8 l4I l5I l6I x10 S4 Φ) else (wkLt (l4I + (1 : Int32)) fun x11 => if ((l6I >>> (l7I &&& 31)) &&& (1 : Int32)) = 0 then (wkLt (l7I + (1 : Int32)) fun x13 => rec 0 l0A l1I l2I x8 x11 l5I l6I x13 S4 Φ) else (rX11_hangingTogether F (wkAd (gDrawings_near S4 l0A)) l7I l2I S4 fun v14 S15 => wkLt ((l6I &&& (v14 ^^^ (-1 : Int32)))) fun x19 => wkLt (l5I + (1 : Int32)) fun x20 => wkLt (l7I + (1 : Int32)) fun x21 => rec 0 l0A l1I l2I x8 x11 x20 x19 x21 S15 Φ)))
def rX2_countWalksDue_go (F : Nat) : Nat → Nat → Nat → Int32 → Int32 → Int32 → Int32 → Int32 → Int32 → Int32 → wPS → (Int32 → wPS → Prop) → Prop
  | 0, _, _, _, _, _, _, _, _, _, _, _ => False
  | k' + 1, lab, l0A, l1I, l2I, l3I, l4I, l5I, l6I, l7I, S, Φ => if lab = 0 then rX2_countWalksDue_b0 F (rX2_countWalksDue_go F k') l0A l1I l2I l3I l4I l5I l6I l7I S Φ else False
def rX2_countWalksDue_s (F : Nat) (rec : Nat → Nat → Int32 → Int32 → Int32 → Int32 → Int32 → Int32 → Int32 → wPS → (Int32 → wPS → Prop) → Prop) (l0A : Nat) (l1I : Int32) (S : wPS) (Φ : (Int32 → wPS → Prop)) : Prop :=
  wkLt ((((2 : Int32) <<< (l1I &&& 31)) - (1 : Int32))) fun x22 => rec 0 l0A l1I x22 (0 : Int32) (0 : Int32) (0 : Int32) x22 (0 : Int32) S Φ
def rX2_countWalksDue (F : Nat) (l0A : Nat) (l1I : Int32) (S : wPS) (Φ : (Int32 → wPS → Prop)) : Prop := rX2_countWalksDue_s F (rX2_countWalksDue_go F F) l0A l1I S Φ
set_option maxHeartbeats 4000000 in
set_option maxRecDepth 100000 in
theorem tX2_countWalksDue_go {l : Launch} {X : wkX} {d F : Nat} {S0 : wPS} {Φ : (Int32 → wPS → Prop)} (C : wkC X cX2_countWalksDue RX2 9 wvX2_countWalksDue) (hR : wkRm X d 0 0) (hd : 1 ≤ d) (E : wkEnd l X cX2_countWalksDue 9 (some .int) 0 0 (fun v' S'' => ∃ v : Int32, v' = some (.int v) ∧ Φ v S'' ∧ wkWF S'' ∧ wkExt S0 S'')) : ∀ k' : Nat, (∀ (l0A : Nat) (l1I : Int32) (l2I : Int32) (l3I : Int32) (l4I : Int32) (l5I : Int32) (l6I : Int32) (l7I : Int32) (S : wPS), wkWF S → wkExt S0 S → wkIs S l0A 2 → rX2_countWalksDue_go F k' 0 l0A l1I l2I l3I l4I l5I l6I l7I S Φ → wkGo l X 9 0 0 20 S [some (.ref l0A), some (.int l1I), some (.int l2I), some (.int l3I), some (.int l4I), some (.int l5I), some (.int l6I), some (.int l7I), none] []) := by
  intro k'
  induction k' with
  | zero => exact fun l0A l1I l2I l3I l4I l5I l6I l7I S hW hE hl0A h => h.elim
  | succ k' ih =>
    · intro l0A l1I l2I l3I l4I l5I l6I l7I S hW hE hl0A h
      have h : rX2_countWalksDue_b0 F (rX2_countWalksDue_go F k') l0A l1I l2I l3I l4I l5I l6I l7I S Φ := by
        rw [rX2_countWalksDue_go, if_pos (rfl : (0 : Nat) = 0)] at h
        exact h
      unfold rX2_countWalksDue_b0 at h
      refine wk_iload C dX2_countWalksDue_20 rfl ?_
      refine wk_iload_n C dX2_countWalksDue_22 rfl rfl ?_
      refine wk_icmp_gt C (tgt := 89) dX2_countWalksDue_23 (by decide) (fun c1 => ?_) (fun c1 => ?_)
      · rw [if_pos c1] at h
        refine wk_iload_n C dX2_countWalksDue_89 rfl rfl ?_
        refine wk_iconst C (v := 2) dX2_countWalksDue_90 (by decide) ?_
        refine wk_idiv C dX2_countWalksDue_91 (by decide) rfl ?_
        refine wk_iload C dX2_countWalksDue_92 rfl ?_
        refine wk_isub C dX2_countWalksDue_94 rfl ?_
        refine wk_iconst C (v := 2) dX2_countWalksDue_95 (by decide) ?_
        refine wk_iload C dX2_countWalksDue_96 rfl ?_
        refine wk_imul C dX2_countWalksDue_98 rfl ?_
        refine wk_iadd C dX2_countWalksDue_99 rfl ?_
        exact E _ _ _ _ _ _ (Nat.le_refl 0) (Nat.le_refl 0) dX2_countWalksDue_100 ⟨(((l3I / (2 : Int32)) - l4I) + ((2 : Int32) * l5I)), rfl, h, hW, hE⟩
      · rw [if_neg c1] at h
        refine wk_aload_n C dX2_countWalksDue_26 rfl rfl ?_
        refine wk_get C huX2_countWalksDue_2 hl0A.1 (fun cy => wAt_2 cy _ hl0A.2) rfl 0 (by decide) (List.mem_of_getElem? (i := 1) rfl) rfl (congrArg some (congrArg va_rf (wf_Drawings_near hW hl0A).1)) dX2_countWalksDue_27 ?_
        refine wk_iload C dX2_countWalksDue_30 rfl ?_
        obtain ⟨i2, h⟩ := h
        refine wk_iald C (wf_Drawings_near hW hl0A).2.1 (wf_Drawings_near hW hl0A).2.2 i2 rfl dX2_countWalksDue_32 ?_
        refine wk_iload_n C dX2_countWalksDue_33 rfl rfl ?_
        refine wk_iand C dX2_countWalksDue_34 rfl ?_
        refine wk_callW C hR (As := [.int ((S.rI (wkAd (gDrawings_near S l0A)) (l7I).toNatClampNeg) &&& l2I)]) (cnt := 1) (tJ6_bitCount_0f7a4 (l := l) hW  h) rfl (wkGoodW (List.mem_of_getElem? (i := 2) rfl) (List.mem_of_getElem? (i := 3) rfl) (List.mem_of_getElem? (i := 4) rfl) hbX2_countWalksDue_J6_bitCount_0f7a4 gdJ6_bitCount_0f7a4) (Nat.le_trans (by decide : 0 + 1 ≤ 1) hd) (by decide) ⟨by decide, by decide, by decide +kernel⟩ rfl rfl (Nat.le_of_ble_eq_true rfl) (Nat.le_refl 0) (Nat.le_refl 0) dX2_countWalksDue_35 (fun v' S4 hp => ?_)
        obtain ⟨v3, rfl, h, hWS4, hXS4⟩ := hp
        refine wk_istore C (lv' := [some (.ref l0A), some (.int l1I), some (.int l2I), some (.int l3I), some (.int l4I), some (.int l5I), some (.int l6I), some (.int l7I), some (.int v3)]) dX2_countWalksDue_38 (by decide) rfl ?_
        refine wk_iload_n C dX2_countWalksDue_40 rfl rfl ?_
        refine wk_iload C dX2_countWalksDue_41 rfl ?_
        refine wk_iadd C dX2_countWalksDue_43 rfl ?_
        obtain ⟨x8, ex8, h⟩ := wkLt_some h
        refine wk_topi ex8 ?_
        refine wk_istore_n C (lv' := [some (.ref l0A), some (.int l1I), some (.int l2I), some (.int x8), some (.int l4I), some (.int l5I), some (.int l6I), some (.int l7I), some (.int v3)]) dX2_countWalksDue_44 rfl (by decide) rfl ?_
        refine wk_iload C dX2_countWalksDue_45 rfl ?_
        refine wk_if_le C (tgt := 83) dX2_countWalksDue_47 (by decide) (fun c9 => ?_) (fun c9 => ?_)
        · rw [if_pos c9] at h
          obtain ⟨x10, ex10, h⟩ := wkLt_some h
          refine wk_iinc C (lv' := [some (.ref l0A), some (.int l1I), some (.int l2I), some (.int x8), some (.int l4I), some (.int l5I), some (.int l6I), some (.int x10), some (.int v3)]) dX2_countWalksDue_83 rfl (by rw [ex10]; rfl) (by decide) rfl ?_
          refine wk_goto C (tgt := 20) dX2_countWalksDue_86 (by decide) ?_
          exact wk_forget (lv' := [some (.ref l0A), some (.int l1I), some (.int l2I), some (.int x8), some (.int l4I), some (.int l5I), some (.int l6I), some (.int x10), none]) (wkLs.le ⟨rfl, rfl, rfl, rfl, rfl, rfl, rfl, rfl, trivial⟩) (ih _ _ _ _ _ _ _ _ _ hWS4 (wkExt.tr hE hXS4) (hXS4 _ _ hl0A) h)
        · rw [if_neg c9] at h
          obtain ⟨x11, ex11, h⟩ := wkLt_some h
          refine wk_iinc C (lv' := [some (.ref l0A), some (.int l1I), some (.int l2I), some (.int x8), some (.int x11), some (.int l5I), some (.int l6I), some (.int l7I), some (.int v3)]) dX2_countWalksDue_50 rfl (by rw [ex11]; rfl) (by decide) rfl ?_
          refine wk_iload C dX2_countWalksDue_53 rfl ?_
          refine wk_iload C dX2_countWalksDue_55 rfl ?_
          refine wk_ishr C dX2_countWalksDue_57 rfl ?_
          refine wk_iconst C (v := 1) dX2_countWalksDue_58 (by decide) ?_
          refine wk_iand C dX2_countWalksDue_59 rfl ?_
          refine wk_if_eq C (tgt := 83) dX2_countWalksDue_60 (by decide) (fun c12 => ?_) (fun c12 => ?_)
          · rw [if_pos c12] at h
            obtain ⟨x13, ex13, h⟩ := wkLt_some h
            refine wk_iinc C (lv' := [some (.ref l0A), some (.int l1I), some (.int l2I), some (.int x8), some (.int x11), some (.int l5I), some (.int l6I), some (.int x13), some (.int v3)]) dX2_countWalksDue_83 rfl (by rw [ex13]; rfl) (by decide) rfl ?_
            refine wk_goto C (tgt := 20) dX2_countWalksDue_86 (by decide) ?_
            exact wk_forget (lv' := [some (.ref l0A), some (.int l1I), some (.int l2I), some (.int x8), some (.int x11), some (.int l5I), some (.int l6I), some (.int x13), none]) (wkLs.le ⟨rfl, rfl, rfl, rfl, rfl, rfl, rfl, rfl, trivial⟩) (ih _ _ _ _ _ _ _ _ _ hWS4 (wkExt.tr hE hXS4) (hXS4 _ _ hl0A) h)
          · rw [if_neg c12] at h
            refine wk_iload C dX2_countWalksDue_63 rfl ?_
            refine wk_aload_n C dX2_countWalksDue_65 rfl rfl ?_
            refine wk_get C huX2_countWalksDue_2 (hXS4 _ _ hl0A).1 (fun cy => wAt_2 cy _ (hXS4 _ _ hl0A).2) rfl 0 (by decide) (List.mem_of_getElem? (i := 1) rfl) rfl (congrArg some (congrArg va_rf (wf_Drawings_near hWS4 (hXS4 _ _ hl0A)).1)) dX2_countWalksDue_66 ?_
            refine wk_iload C dX2_countWalksDue_69 rfl ?_
            refine wk_iload_n C dX2_countWalksDue_71 rfl rfl ?_
            refine wk_callN C hR (y := yX11_hangingTogether) (host := "Witnessworks") (As := [.ref (wkAd (gDrawings_near S4 l0A)), .int l7I, .int l2I]) (cnt := 3) (tX11_hangingTogether (l := l) hWS4 (wf_Drawings_near hWS4 (hXS4 _ _ hl0A)).2 h) rfl (fun w h => ⟨hbX2_countWalksDue_X11_hangingTogether w h, gdX11_hangingTogether w h⟩) (by decide +kernel) (List.mem_of_getElem? (i := 5) rfl) (List.mem_of_getElem? (i := 6) rfl) (Nat.le_trans (by decide : 0 + 1 ≤ 1) hd) (by decide) ⟨by decide, by decide, by decide +kernel⟩ rfl rfl (Nat.le_of_ble_eq_true rfl) (Nat.le_refl 0) (Nat.le_refl 0) dX2_countWalksDue_72 (fun v' S15 hp => ?_)
            obtain ⟨v14, rfl, h, hWS15, hXS15⟩ := hp
            refine wk_iconst C (v := (-1)) dX2_countWalksDue_75 (by decide) ?_
            refine wk_ixor C dX2_countWalksDue_76 rfl ?_
            refine wk_iand C dX2_countWalksDue_77 rfl ?_
            obtain ⟨x19, ex19, h⟩ := wkLt_some h
            refine wk_topi ex19 ?_
            refine wk_istore C (lv' := [some (.ref l0A), some (.int l1I), some (.int l2I), some (.int x8), some (.int x11), some (.int l5I), some (.int x19), some (.int l7I), some (.int v3)]) dX2_countWalksDue_78 (by decide) rfl ?_
            obtain ⟨x20, ex20, h⟩ := wkLt_some h
            refine wk_iinc C (lv' := [some (.ref l0A), some (.int l1I), some (.int l2I), some (.int x8), some (.int x11), some (.int x20), some (.int x19), some (.int l7I), some (.int v3)]) dX2_countWalksDue_80 rfl (by rw [ex20]; rfl) (by decide) rfl ?_
            obtain ⟨x21, ex21, h⟩ := wkLt_some h
            refine wk_iinc C (lv' := [some (.ref l0A), some (.int l1I), some (.int l2I), some (.int x8), some (.int x11), some (.int x20), some (.int x19), some (.int x21), some (.int v3)]) dX2_countWalksDue_83 rfl (by rw [ex21]; rfl) (by decide) rfl ?_
            refine wk_goto C (tgt := 20) dX2_countWalksDue_86 (by decide) ?_
            exact wk_forget (lv' := [some (.ref l0A), some (.int l1I), some (.int l2I), some (.int x8), some (.int x11), some (.int x20), some (.int x19), some (.int x21), none]) (wkLs.le ⟨rfl, rfl, rfl, rfl, rfl, rfl, rfl, rfl, trivial⟩) (ih _ _ _ _ _ _ _ _ _ hWS15 (wkExt.tr (wkExt.tr hE hXS4) hXS15) (hXS15 _ _ (hXS4 _ _ hl0A)) h)
set_option maxHeartbeats 4000000 in
set_option maxRecDepth 100000 in
theorem tX2_countWalksDue {l : Launch} {g : wkG} {F : Nat}  {S : wPS} {l0A : Nat} {l1I : Int32} {Φ : (Int32 → wPS → Prop)} (hW : wkWF S) (hl0A : wkIs S l0A 2) (h : rX2_countWalksDue F l0A l1I S Φ) : wkMet l g yX2_countWalksDue wvX2_countWalksDue 1 0 0 [.ref l0A, .int l1I] S (fun v' S'' => ∃ v : Int32, v' = some (.int v) ∧ Φ v S'' ∧ wkWF S'' ∧ wkExt S S'') := by
  refine wkMet_of (ret := (some .int)) (by decide) rfl (Nat.le_of_ble_eq_true rfl) (fun X hg C hR E => ?_)
  subst hg
  have hE : wkExt S S := wkExt.rf
  have hd : 1 ≤ 1 := Nat.le_refl _
  show wkGo l X 9 0 0 0 S [some (.ref l0A), some (.int l1I), none, none, none, none, none, none, none] []
  have ih := tX2_countWalksDue_go (F := F) C hR hd E F
  have h : rX2_countWalksDue_s F (rX2_countWalksDue_go F F) l0A l1I S Φ := h
  unfold rX2_countWalksDue_s at h
  refine wk_iconst C (v := 2) dX2_countWalksDue_0 (by decide) ?_
  refine wk_iload_n C dX2_countWalksDue_1 rfl rfl ?_
  refine wk_ishl C dX2_countWalksDue_2 rfl ?_
  refine wk_iconst C (v := 1) dX2_countWalksDue_3 (by decide) ?_
  refine wk_isub C dX2_countWalksDue_4 rfl ?_
  obtain ⟨x22, ex22, h⟩ := wkLt_some h
  refine wk_topi ex22 ?_
  refine wk_istore_n C (lv' := [some (.ref l0A), some (.int l1I), some (.int x22), none, none, none, none, none, none]) dX2_countWalksDue_5 rfl (by decide) rfl ?_
  refine wk_iconst C (v := 0) dX2_countWalksDue_6 (by decide) ?_
  refine wk_istore_n C (lv' := [some (.ref l0A), some (.int l1I), some (.int x22), some (.int (0 : Int32)), none, none, none, none, none]) dX2_countWalksDue_7 rfl (by decide) rfl ?_
  refine wk_iconst C (v := 0) dX2_countWalksDue_8 (by decide) ?_
  refine wk_istore C (lv' := [some (.ref l0A), some (.int l1I), some (.int x22), some (.int (0 : Int32)), some (.int (0 : Int32)), none, none, none, none]) dX2_countWalksDue_9 (by decide) rfl ?_
  refine wk_iconst C (v := 0) dX2_countWalksDue_11 (by decide) ?_
  refine wk_istore C (lv' := [some (.ref l0A), some (.int l1I), some (.int x22), some (.int (0 : Int32)), some (.int (0 : Int32)), some (.int (0 : Int32)), none, none, none]) dX2_countWalksDue_12 (by decide) rfl ?_
  refine wk_iload_n C dX2_countWalksDue_14 rfl rfl ?_
  refine wk_istore C (lv' := [some (.ref l0A), some (.int l1I), some (.int x22), some (.int (0 : Int32)), some (.int (0 : Int32)), some (.int (0 : Int32)), some (.int x22), none, none]) dX2_countWalksDue_15 (by decide) rfl ?_
  refine wk_iconst C (v := 0) dX2_countWalksDue_17 (by decide) ?_
  refine wk_istore C (lv' := [some (.ref l0A), some (.int l1I), some (.int x22), some (.int (0 : Int32)), some (.int (0 : Int32)), some (.int (0 : Int32)), some (.int x22), some (.int (0 : Int32)), none]) dX2_countWalksDue_18 (by decide) rfl ?_
  exact wk_forget (lv' := [some (.ref l0A), some (.int l1I), some (.int x22), some (.int (0 : Int32)), some (.int (0 : Int32)), some (.int (0 : Int32)), some (.int x22), some (.int (0 : Int32)), none]) (wkLs.le ⟨rfl, rfl, rfl, rfl, rfl, rfl, rfl, rfl, trivial⟩) (ih _ _ _ _ _ _ _ _ _ hW hE hl0A h)
def wvX2_behind : List Cond := .code yX2_behind cX2_behind 8 (some .int) :: (([.fieldLink RX2 16 "Witnessworks$Drawings" "firstPlace" "[I", .fieldLink RX2 22 "Witnessworks$Drawings" "ring" "[I", .fieldLink RX2 25 "Witnessworks$Drawings" "spot" "[I", .fieldLink RX2 19 "Witnessworks$Drawings" "owner" "[I", .fieldLink RX2 9 "Witnessworks$Drawings" "near" "[I", .methodLink RX2 100 yJ6_bitCount_0f7a4, .static yJ6_bitCount_0f7a4, .initialized RJ6] : List Cond) ++ ((wsX20) ++ (wvJ6_bitCount_0f7a4)))
theorem huX2_behind_2 : ∀ w ∈ u_ws RX2 TX2 10, w ∈ wvX2_behind := fun w h => List.mem_cons_of_mem _ (List.mem_append_right _ (List.mem_append_left _ h))
theorem hbX2_behind_J6_bitCount_0f7a4 : ∀ w ∈ wvJ6_bitCount_0f7a4, w ∈ wvX2_behind := fun w h => List.mem_cons_of_mem _ (List.mem_append_right _ (List.mem_append_right _ h))
theorem gdX2_behind : ∀ w ∈ wvX2_behind, wkGd w := wkGdC rfl (wkGdA (wkGdL (by decide +kernel)) (wkGdA gdX2 gdJ6_bitCount_0f7a4))
def rX2_behind_b0 (F : Nat) (rec : Nat → Nat → Int32 → Int32 → Int32 → Int32 → Int32 → Int32 → wPS → (Int32 → wPS → Prop) → Prop) (l0A : Nat) (l2I : Int32) (l3I : Int32) (l4I : Int32) (l5I : Int32) (l6I : Int32) (l7I : Int32) (S : wPS) (Φ : (Int32 → wPS → Prop)) : Prop :=
  if l5I ≤ l7I then (Φ l4I S) else (wkLt (l6I + (1 : Int32)) fun x2 => ¬ (l3I < 0 ∨ S.len (wkAd (gDrawings_firstPlace S l0A)) ≤ (l3I).toNatClampNeg) ∧ if x2 < ((S.rI (wkAd (gDrawings_firstPlace S l0A)) (l3I).toNatClampNeg) + l5I) then (¬ (x2 < 0 ∨ S.len (wkAd (gDrawings_ring S l0A)) ≤ (x2).toNatClampNeg) ∧ if l2I < (S.rI (wkAd (gDrawings_ring S l0A)) (x2).toNatClampNeg) then (wkLt (l7I + (1 : Int32)) fun x7 => rec 0 l0A l2I l3I l4I l5I x2 x7 S Φ) else (Φ x2 S)) else (¬ (l3I < 0 ∨ S.len (wkAd (gDrawings_firstPlace S l0A)) ≤ (l3I).toNatClampNeg) ∧ wkLt ((S.rI (wkAd (gDrawings_firstPlace S l0A)) (l3I).toNatClampNeg)) fun x9 => ¬ (x9 < 0 ∨ S.len (wkAd (gDrawings_ring S l0A)) ≤ (x9).toNatClampNeg) ∧ if l2I < (S.rI (wkAd (gDrawings_ring S l0A)) (x9).toNatClampNeg) then (wkLt (l7I + (1 : Int32)) fun x12 => rec 0 l0A l2I l3I l4I l5I x9 x12 S Φ) else (Φ x9 S)))
def rX2_behind_go (F : Nat) : Nat → Nat → Nat → Int32 → Int32 → Int32 → Int32 → Int32 → Int32 → wPS → (Int32 → wPS → Prop) → Prop
  | 0, _, _, _, _, _, _, _, _, _, _ => False
  | k' + 1, lab, l0A, l2I, l3I, l4I, l5I, l6I, l7I, S, Φ => if lab = 0 then rX2_behind_b0 F (rX2_behind_go F k') l0A l2I l3I l4I l5I l6I l7I S Φ else False
def rX2_behind_s (F : Nat) (rec : Nat → Nat → Int32 → Int32 → Int32 → Int32 → Int32 → Int32 → wPS → (Int32 → wPS → Prop) → Prop) (l0A : Nat) (l1I : Int32) (l2I : Int32) (S : wPS) (Φ : (Int32 → wPS → Prop)) : Prop :=
  ¬ (l1I < 0 ∨ S.len (wkAd (gDrawings_ring S l0A)) ≤ (l1I).toNatClampNeg) ∧ wkLt ((S.rI (wkAd (gDrawings_ring S l0A)) (l1I).toNatClampNeg)) fun x14 => ¬ (l1I < 0 ∨ S.len (wkAd (gDrawings_owner S l0A)) ≤ (l1I).toNatClampNeg) ∧ ¬ (((x14 * (7 : Int32)) + (S.rI (wkAd (gDrawings_owner S l0A)) (l1I).toNatClampNeg)) < 0 ∨ S.len (wkAd (gDrawings_spot S l0A)) ≤ (((x14 * (7 : Int32)) + (S.rI (wkAd (gDrawings_owner S l0A)) (l1I).toNatClampNeg))).toNatClampNeg) ∧ wkLt ((S.rI (wkAd (gDrawings_spot S l0A)) (((x14 * (7 : Int32)) + (S.rI (wkAd (gDrawings_owner S l0A)) (l1I).toNatClampNeg))).toNatClampNeg)) fun x17 => ¬ (x14 < 0 ∨ S.len (wkAd (gDrawings_near S l0A)) ≤ (x14).toNatClampNeg) ∧ rJ6_bitCount_0f7a4 F (S.rI (wkAd (gDrawings_near S l0A)) (x14).toNatClampNeg) S fun v19 S20 => rec 0 l0A l2I x14 x17 v19 x17 (0 : Int32) S20 Φ
def rX2_behind (F : Nat) (l0A : Nat) (l1I : Int32) (l2I : Int32) (S : wPS) (Φ : (Int32 → wPS → Prop)) : Prop := rX2_behind_s F (rX2_behind_go F F) l0A l1I l2I S Φ
set_option maxHeartbeats 4000000 in
set_option maxRecDepth 100000 in
theorem tX2_behind_go {l : Launch} {X : wkX} {d F : Nat} {S0 : wPS} {Φ : (Int32 → wPS → Prop)} (C : wkC X cX2_behind RX2 8 wvX2_behind) (hR : wkRm X d 0 0) (hd : 1 ≤ d) (E : wkEnd l X cX2_behind 8 (some .int) 0 0 (fun v' S'' => ∃ v : Int32, v' = some (.int v) ∧ Φ v S'' ∧ wkWF S'' ∧ wkExt S0 S'')) : ∀ k' : Nat, (∀ (l0A : Nat) (l2I : Int32) (l3I : Int32) (l4I : Int32) (l5I : Int32) (l6I : Int32) (l7I : Int32) (S : wPS), wkWF S → wkExt S0 S → wkIs S l0A 2 → rX2_behind_go F k' 0 l0A l2I l3I l4I l5I l6I l7I S Φ → wkGo l X 8 0 0 43 S [some (.ref l0A), none, some (.int l2I), some (.int l3I), some (.int l4I), some (.int l5I), some (.int l6I), some (.int l7I)] []) := by
  intro k'
  induction k' with
  | zero => exact fun l0A l2I l3I l4I l5I l6I l7I S hW hE hl0A h => h.elim
  | succ k' ih =>
    · intro l0A l2I l3I l4I l5I l6I l7I S hW hE hl0A h
      have h : rX2_behind_b0 F (rX2_behind_go F k') l0A l2I l3I l4I l5I l6I l7I S Φ := by
        rw [rX2_behind_go, if_pos (rfl : (0 : Nat) = 0)] at h
        exact h
      unfold rX2_behind_b0 at h
      refine wk_iload C dX2_behind_43 rfl ?_
      refine wk_iload C dX2_behind_45 rfl ?_
      refine wk_icmp_ge C (tgt := 95) dX2_behind_47 (by decide) (fun c1 => ?_) (fun c1 => ?_)
      · rw [if_pos c1] at h
        refine wk_iload C dX2_behind_95 rfl ?_
        exact E _ _ _ _ _ _ (Nat.le_refl 0) (Nat.le_refl 0) dX2_behind_97 ⟨l4I, rfl, h, hW, hE⟩
      · rw [if_neg c1] at h
        obtain ⟨x2, ex2, h⟩ := wkLt_some h
        refine wk_iinc C (lv' := [some (.ref l0A), none, some (.int l2I), some (.int l3I), some (.int l4I), some (.int l5I), some (.int x2), some (.int l7I)]) dX2_behind_50 rfl (by rw [ex2]; rfl) (by decide) rfl ?_
        refine wk_iload C dX2_behind_53 rfl ?_
        refine wk_aload_n C dX2_behind_55 rfl rfl ?_
        refine wk_get C huX2_behind_2 hl0A.1 (fun cy => wAt_2 cy _ hl0A.2) rfl 2 (by decide) (List.mem_of_getElem? (i := 1) rfl) rfl (congrArg some (congrArg va_rf (wf_Drawings_firstPlace hW hl0A).1)) dX2_behind_56 ?_
        refine wk_iload_n C dX2_behind_59 rfl rfl ?_
        obtain ⟨i3, h⟩ := h
        refine wk_iald C (wf_Drawings_firstPlace hW hl0A).2.1 (wf_Drawings_firstPlace hW hl0A).2.2 i3 rfl dX2_behind_60 ?_
        refine wk_iload C dX2_behind_61 rfl ?_
        refine wk_iadd C dX2_behind_63 rfl ?_
        refine wk_icmp_lt C (tgt := 75) dX2_behind_64 (by decide) (fun c4 => ?_) (fun c4 => ?_)
        · rw [if_pos c4] at h
          refine wk_aload_n C dX2_behind_75 rfl rfl ?_
          refine wk_get C huX2_behind_2 hl0A.1 (fun cy => wAt_2 cy _ hl0A.2) rfl 4 (by decide) (List.mem_of_getElem? (i := 2) rfl) rfl (congrArg some (congrArg va_rf (wf_Drawings_ring hW hl0A).1)) dX2_behind_76 ?_
          refine wk_iload C dX2_behind_79 rfl ?_
          obtain ⟨i5, h⟩ := h
          refine wk_iald C (wf_Drawings_ring hW hl0A).2.1 (wf_Drawings_ring hW hl0A).2.2 i5 rfl dX2_behind_81 ?_
          refine wk_iload_n C dX2_behind_82 rfl rfl ?_
          refine wk_icmp_gt C (tgt := 89) dX2_behind_83 (by decide) (fun c6 => ?_) (fun c6 => ?_)
          · rw [if_pos c6] at h
            obtain ⟨x7, ex7, h⟩ := wkLt_some h
            refine wk_iinc C (lv' := [some (.ref l0A), none, some (.int l2I), some (.int l3I), some (.int l4I), some (.int l5I), some (.int x2), some (.int x7)]) dX2_behind_89 rfl (by rw [ex7]; rfl) (by decide) rfl ?_
            refine wk_goto C (tgt := 43) dX2_behind_92 (by decide) ?_
            exact wk_forget (lv' := [some (.ref l0A), none, some (.int l2I), some (.int l3I), some (.int l4I), some (.int l5I), some (.int x2), some (.int x7)]) (wkLs.le ⟨rfl, rfl, rfl, rfl, rfl, rfl, rfl, trivial⟩) (ih _ _ _ _ _ _ _ _ hW hE hl0A h)
          · rw [if_neg c6] at h
            refine wk_iload C dX2_behind_86 rfl ?_
            exact E _ _ _ _ _ _ (Nat.le_refl 0) (Nat.le_refl 0) dX2_behind_88 ⟨x2, rfl, h, hW, hE⟩
        · rw [if_neg c4] at h
          refine wk_aload_n C dX2_behind_67 rfl rfl ?_
          refine wk_get C huX2_behind_2 hl0A.1 (fun cy => wAt_2 cy _ hl0A.2) rfl 2 (by decide) (List.mem_of_getElem? (i := 1) rfl) rfl (congrArg some (congrArg va_rf (wf_Drawings_firstPlace hW hl0A).1)) dX2_behind_68 ?_
          refine wk_iload_n C dX2_behind_71 rfl rfl ?_
          obtain ⟨i8, h⟩ := h
          refine wk_iald C (wf_Drawings_firstPlace hW hl0A).2.1 (wf_Drawings_firstPlace hW hl0A).2.2 i8 rfl dX2_behind_72 ?_
          obtain ⟨x9, ex9, h⟩ := wkLt_some h
          refine wk_topi ex9 ?_
          refine wk_istore C (lv' := [some (.ref l0A), none, some (.int l2I), some (.int l3I), some (.int l4I), some (.int l5I), some (.int x9), some (.int l7I)]) dX2_behind_73 (by decide) rfl ?_
          refine wk_aload_n C dX2_behind_75 rfl rfl ?_
          refine wk_get C huX2_behind_2 hl0A.1 (fun cy => wAt_2 cy _ hl0A.2) rfl 4 (by decide) (List.mem_of_getElem? (i := 2) rfl) rfl (congrArg some (congrArg va_rf (wf_Drawings_ring hW hl0A).1)) dX2_behind_76 ?_
          refine wk_iload C dX2_behind_79 rfl ?_
          obtain ⟨i10, h⟩ := h
          refine wk_iald C (wf_Drawings_ring hW hl0A).2.1 (wf_Drawings_ring hW hl0A).2.2 i10 rfl dX2_behind_81 ?_
          refine wk_iload_n C dX2_behind_82 rfl rfl ?_
          refine wk_icmp_gt C (tgt := 89) dX2_behind_83 (by decide) (fun c11 => ?_) (fun c11 => ?_)
          · rw [if_pos c11] at h
            obtain ⟨x12, ex12, h⟩ := wkLt_some h
            refine wk_iinc C (lv' := [some (.ref l0A), none, some (.int l2I), some (.int l3I), some (.int l4I), some (.int l5I), some (.int x9), some (.int x12)]) dX2_behind_89 rfl (by rw [ex12]; rfl) (by decide) rfl ?_
            refine wk_goto C (tgt := 43) dX2_behind_92 (by decide) ?_
            exact wk_forget (lv' := [some (.ref l0A), none, some (.int l2I), some (.int l3I), some (.int l4I), some (.int l5I), some (.int x9), some (.int x12)]) (wkLs.le ⟨rfl, rfl, rfl, rfl, rfl, rfl, rfl, trivial⟩) (ih _ _ _ _ _ _ _ _ hW hE hl0A h)
          · rw [if_neg c11] at h
            refine wk_iload C dX2_behind_86 rfl ?_
            exact E _ _ _ _ _ _ (Nat.le_refl 0) (Nat.le_refl 0) dX2_behind_88 ⟨x9, rfl, h, hW, hE⟩
set_option maxHeartbeats 4000000 in
set_option maxRecDepth 100000 in
theorem tX2_behind {l : Launch} {g : wkG} {F : Nat}  {S : wPS} {l0A : Nat} {l1I : Int32} {l2I : Int32} {Φ : (Int32 → wPS → Prop)} (hW : wkWF S) (hl0A : wkIs S l0A 2) (h : rX2_behind F l0A l1I l2I S Φ) : wkMet l g yX2_behind wvX2_behind 1 0 0 [.ref l0A, .int l1I, .int l2I] S (fun v' S'' => ∃ v : Int32, v' = some (.int v) ∧ Φ v S'' ∧ wkWF S'' ∧ wkExt S S'') := by
  refine wkMet_of (ret := (some .int)) (by decide) rfl (Nat.le_of_ble_eq_true rfl) (fun X hg C hR E => ?_)
  subst hg
  have hE : wkExt S S := wkExt.rf
  have hd : 1 ≤ 1 := Nat.le_refl _
  show wkGo l X 8 0 0 0 S [some (.ref l0A), some (.int l1I), some (.int l2I), none, none, none, none, none] []
  have ih := tX2_behind_go (F := F) C hR hd E F
  have h : rX2_behind_s F (rX2_behind_go F F) l0A l1I l2I S Φ := h
  unfold rX2_behind_s at h
  refine wk_aload_n C dX2_behind_0 rfl rfl ?_
  refine wk_get C huX2_behind_2 hl0A.1 (fun cy => wAt_2 cy _ hl0A.2) rfl 4 (by decide) (List.mem_of_getElem? (i := 2) rfl) rfl (congrArg some (congrArg va_rf (wf_Drawings_ring hW hl0A).1)) dX2_behind_1 ?_
  refine wk_iload_n C dX2_behind_4 rfl rfl ?_
  obtain ⟨i13, h⟩ := h
  refine wk_iald C (wf_Drawings_ring hW hl0A).2.1 (wf_Drawings_ring hW hl0A).2.2 i13 rfl dX2_behind_5 ?_
  obtain ⟨x14, ex14, h⟩ := wkLt_some h
  refine wk_topi ex14 ?_
  refine wk_istore_n C (lv' := [some (.ref l0A), some (.int l1I), some (.int l2I), some (.int x14), none, none, none, none]) dX2_behind_6 rfl (by decide) rfl ?_
  refine wk_aload_n C dX2_behind_7 rfl rfl ?_
  refine wk_get C huX2_behind_2 hl0A.1 (fun cy => wAt_2 cy _ hl0A.2) rfl 5 (by decide) (List.mem_of_getElem? (i := 3) rfl) rfl (congrArg some (congrArg va_rf (wf_Drawings_spot hW hl0A).1)) dX2_behind_8 ?_
  refine wk_iload_n C dX2_behind_11 rfl rfl ?_
  refine wk_bipush C (v := 7) dX2_behind_12 (by decide) ?_
  refine wk_imul C dX2_behind_14 rfl ?_
  refine wk_aload_n C dX2_behind_15 rfl rfl ?_
  refine wk_get C huX2_behind_2 hl0A.1 (fun cy => wAt_2 cy _ hl0A.2) rfl 3 (by decide) (List.mem_of_getElem? (i := 4) rfl) rfl (congrArg some (congrArg va_rf (wf_Drawings_owner hW hl0A).1)) dX2_behind_16 ?_
  refine wk_iload_n C dX2_behind_19 rfl rfl ?_
  obtain ⟨i15, h⟩ := h
  refine wk_iald C (wf_Drawings_owner hW hl0A).2.1 (wf_Drawings_owner hW hl0A).2.2 i15 rfl dX2_behind_20 ?_
  refine wk_iadd C dX2_behind_21 rfl ?_
  obtain ⟨i16, h⟩ := h
  refine wk_iald C (wf_Drawings_spot hW hl0A).2.1 (wf_Drawings_spot hW hl0A).2.2 i16 rfl dX2_behind_22 ?_
  obtain ⟨x17, ex17, h⟩ := wkLt_some h
  refine wk_topi ex17 ?_
  refine wk_istore C (lv' := [some (.ref l0A), some (.int l1I), some (.int l2I), some (.int x14), some (.int x17), none, none, none]) dX2_behind_23 (by decide) rfl ?_
  refine wk_aload_n C dX2_behind_25 rfl rfl ?_
  refine wk_get C huX2_behind_2 hl0A.1 (fun cy => wAt_2 cy _ hl0A.2) rfl 0 (by decide) (List.mem_of_getElem? (i := 5) rfl) rfl (congrArg some (congrArg va_rf (wf_Drawings_near hW hl0A).1)) dX2_behind_26 ?_
  refine wk_iload_n C dX2_behind_29 rfl rfl ?_
  obtain ⟨i18, h⟩ := h
  refine wk_iald C (wf_Drawings_near hW hl0A).2.1 (wf_Drawings_near hW hl0A).2.2 i18 rfl dX2_behind_30 ?_
  refine wk_callW C hR (As := [.int (S.rI (wkAd (gDrawings_near S l0A)) (x14).toNatClampNeg)]) (cnt := 1) (tJ6_bitCount_0f7a4 (l := l) hW  h) rfl (wkGoodW (List.mem_of_getElem? (i := 6) rfl) (List.mem_of_getElem? (i := 7) rfl) (List.mem_of_getElem? (i := 8) rfl) hbX2_behind_J6_bitCount_0f7a4 gdJ6_bitCount_0f7a4) (Nat.le_trans (by decide : 0 + 1 ≤ 1) hd) (by decide) ⟨by decide, by decide, by decide +kernel⟩ rfl rfl (Nat.le_of_ble_eq_true rfl) (Nat.le_refl 0) (Nat.le_refl 0) dX2_behind_31 (fun v' S20 hp => ?_)
  obtain ⟨v19, rfl, h, hWS20, hXS20⟩ := hp
  refine wk_istore C (lv' := [some (.ref l0A), some (.int l1I), some (.int l2I), some (.int x14), some (.int x17), some (.int v19), none, none]) dX2_behind_34 (by decide) rfl ?_
  refine wk_iload C dX2_behind_36 rfl ?_
  refine wk_istore C (lv' := [some (.ref l0A), some (.int l1I), some (.int l2I), some (.int x14), some (.int x17), some (.int v19), some (.int x17), none]) dX2_behind_38 (by decide) rfl ?_
  refine wk_iconst C (v := 0) dX2_behind_40 (by decide) ?_
  refine wk_istore C (lv' := [some (.ref l0A), some (.int l1I), some (.int l2I), some (.int x14), some (.int x17), some (.int v19), some (.int x17), some (.int (0 : Int32))]) dX2_behind_41 (by decide) rfl ?_
  exact wk_forget (lv' := [some (.ref l0A), none, some (.int l2I), some (.int x14), some (.int x17), some (.int v19), some (.int x17), some (.int (0 : Int32))]) (wkLs.le ⟨rfl, rfl, rfl, rfl, rfl, rfl, rfl, trivial⟩) (ih _ _ _ _ _ _ _ _ hWS20 (wkExt.tr hE hXS20) (hXS20 _ _ hl0A) h)
