def wvX5_rightSideBy : List Cond := .code yX5_rightSideBy cX5_rightSideBy 3 (some .long) :: (([.methodLink RX5 92 yX5_limitOf, .static yX5_limitOf, .initialized RX5, .methodLink RX5 143 yX9_at, .instanceMethod yX9_at, .selects RX9 yX9_at yX9_at, .initialized RX9] : List Cond) ++ (([]) ++ (wvX5_limitOf ++ (wvX9_at))))
theorem hbX5_rightSideBy_X5_limitOf : ∀ w ∈ wvX5_limitOf, w ∈ wvX5_rightSideBy := fun w h => List.mem_cons_of_mem _ (List.mem_append_right _ (List.mem_append_right _ (List.mem_append_left _ h)))
theorem hbX5_rightSideBy_X9_at : ∀ w ∈ wvX9_at, w ∈ wvX5_rightSideBy := fun w h => List.mem_cons_of_mem _ (List.mem_append_right _ (List.mem_append_right _ (List.mem_append_right _ h)))
theorem gdX5_rightSideBy : ∀ w ∈ wvX5_rightSideBy, wkGd w := wkGdC rfl (wkGdA (wkGdL (by decide +kernel)) (wkGdA (fun _ h => absurd h List.not_mem_nil) (wkGdA gdX5_limitOf gdX9_at)))
def rX5_rightSideBy (F : Nat) (l0A : Nat) (l1I : Int32) (l2A : Nat) (S : wPS) (Φ : (Int64 → wPS → Prop)) : Prop :=
  rX5_limitOf F l0A l1I S fun v1 S2 => rX9_at F l2A (0 : Int32) S2 fun v6 S7 => Φ ((Int32.toInt64 v1) * (Int32.toInt64 v6)) S7
set_option maxHeartbeats 4000000 in
set_option maxRecDepth 100000 in
theorem tX5_rightSideBy {l : Launch} {g : wkG} {F : Nat}  {S : wPS} {l0A : Nat} {l1I : Int32} {l2A : Nat} {Φ : (Int64 → wPS → Prop)} (hW : wkWF S) (hl0A : wkIs S l0A 3) (hl2A : wkIs S l2A 9) (h : rX5_rightSideBy F l0A l1I l2A S Φ) : wkMet l g yX5_rightSideBy wvX5_rightSideBy 2 0 0 [.ref l0A, .int l1I, .ref l2A] S (fun v' S'' => ∃ v : Int64, v' = some (.long v) ∧ Φ v S'' ∧ wkWF S'' ∧ wkExt S S'') := by
  refine wkMet_of (ret := (some .long)) (by decide) rfl (Nat.le_of_ble_eq_true rfl) (fun X hg C hR E => ?_)
  subst hg
  have hE : wkExt S S := wkExt.rf
  have hd : 2 ≤ 2 := Nat.le_refl _
  show wkGo l X 3 0 0 0 S [some (.ref l0A), some (.int l1I), some (.ref l2A)] []
  unfold rX5_rightSideBy at h
  refine wk_aload_n C dX5_rightSideBy_0 rfl rfl ?_
  refine wk_iload_n C dX5_rightSideBy_1 rfl rfl ?_
  refine wk_callW C hR (As := [.ref l0A, .int l1I]) (cnt := 2) (tX5_limitOf (l := l) hW hl0A h) rfl (wkGoodW (List.mem_of_getElem? (i := 1) rfl) (List.mem_of_getElem? (i := 2) rfl) (List.mem_of_getElem? (i := 3) rfl) hbX5_rightSideBy_X5_limitOf gdX5_limitOf) (Nat.le_trans (by decide : 1 + 1 ≤ 2) hd) (by decide) ⟨by decide, by decide, by decide +kernel⟩ rfl rfl (Nat.le_of_ble_eq_true rfl) (Nat.le_refl 0) (Nat.le_refl 0) dX5_rightSideBy_2 (fun v' S2 hp => ?_)
  obtain ⟨v1, rfl, h, hWS2, hXS2⟩ := hp
  refine wk_i2l C dX5_rightSideBy_5 rfl ?_
  refine wk_aload_n C dX5_rightSideBy_6 rfl rfl ?_
  refine wk_iconst C (v := 0) dX5_rightSideBy_7 (by decide) ?_
  refine wk_callV C hR (As := [.int (0 : Int32)]) (cnt := 1) (tX9_at (l := l) hWS2 (hXS2 _ _ hl2A) h) rfl (wkGoodV (List.mem_of_getElem? (i := 4) rfl) (List.mem_of_getElem? (i := 5) rfl) (List.mem_of_getElem? (i := 6) rfl) (List.mem_of_getElem? (i := 7) rfl) hbX5_rightSideBy_X9_at gdX9_at) (Nat.le_trans (by decide : 0 + 1 ≤ 2) hd) (by decide) (hXS2 _ _ hl2A).1 (fun cy => wAt_9 cy _ (hXS2 _ _ hl2A).2) rfl ⟨by decide, by decide, by decide +kernel⟩ rfl rfl (Nat.le_of_ble_eq_true rfl) (Nat.le_refl 0) (Nat.le_refl 0) dX5_rightSideBy_8 (fun v' S7 hp => ?_)
  obtain ⟨v6, rfl, h, hWS7, hXS7⟩ := hp
  refine wk_i2l C dX5_rightSideBy_11 rfl ?_
  refine wk_lmul C dX5_rightSideBy_12 rfl ?_
  exact E _ _ _ _ _ _ (Nat.le_refl 0) (Nat.le_refl 0) dX5_rightSideBy_13 ⟨((Int32.toInt64 v1) * (Int32.toInt64 v6)), rfl, h, hWS7, (wkExt.tr (wkExt.tr hE hXS2) hXS7)⟩
def wvX5_judgeUnknowns : List Cond := .code yX5_judgeUnknowns cX5_judgeUnknowns 4 (some .int) :: (([.fieldLink RX5 23 "Witnessworks$Entry" "itemCount" "I", .methodLink RX5 145 yX5_leftSideBy, .static yX5_leftSideBy, .initialized RX5, .methodLink RX5 149 yX5_rightSideBy, .static yX5_rightSideBy, .fieldLink RX5 152 "Witnessworks$Row" "count" "I", .fieldLink RX5 37 "Witnessworks$Entry" "size" "I", .methodLink RX5 143 yX9_at, .instanceMethod yX9_at, .selects RX9 yX9_at yX9_at, .initialized RX9, .constant RX5 155 (2147483647), .methodLink RX5 156 yX9_liesWithin, .instanceMethod yX9_liesWithin, .selects RX9 yX9_liesWithin yX9_liesWithin] : List Cond) ++ ((wsX30 ++ (wsX90)) ++ (wvX5_leftSideBy ++ (wvX5_rightSideBy ++ (wvX9_at ++ (wvX9_liesWithin))))))
theorem huX5_judgeUnknowns_3 : ∀ w ∈ u_ws RX3 TX3 17, w ∈ wvX5_judgeUnknowns := fun w h => List.mem_cons_of_mem _ (List.mem_append_right _ (List.mem_append_left _ (List.mem_append_left _ h)))
theorem huX5_judgeUnknowns_9 : ∀ w ∈ u_ws RX9 TX9 2, w ∈ wvX5_judgeUnknowns := fun w h => List.mem_cons_of_mem _ (List.mem_append_right _ (List.mem_append_left _ (List.mem_append_right _ h)))
theorem hbX5_judgeUnknowns_X5_leftSideBy : ∀ w ∈ wvX5_leftSideBy, w ∈ wvX5_judgeUnknowns := fun w h => List.mem_cons_of_mem _ (List.mem_append_right _ (List.mem_append_right _ (List.mem_append_left _ h)))
theorem hbX5_judgeUnknowns_X5_rightSideBy : ∀ w ∈ wvX5_rightSideBy, w ∈ wvX5_judgeUnknowns := fun w h => List.mem_cons_of_mem _ (List.mem_append_right _ (List.mem_append_right _ (List.mem_append_right _ (List.mem_append_left _ h))))
theorem hbX5_judgeUnknowns_X9_at : ∀ w ∈ wvX9_at, w ∈ wvX5_judgeUnknowns := fun w h => List.mem_cons_of_mem _ (List.mem_append_right _ (List.mem_append_right _ (List.mem_append_right _ (List.mem_append_right _ (List.mem_append_left _ h)))))
theorem hbX5_judgeUnknowns_X9_liesWithin : ∀ w ∈ wvX9_liesWithin, w ∈ wvX5_judgeUnknowns := fun w h => List.mem_cons_of_mem _ (List.mem_append_right _ (List.mem_append_right _ (List.mem_append_right _ (List.mem_append_right _ (List.mem_append_right _ h)))))
theorem gdX5_judgeUnknowns : ∀ w ∈ wvX5_judgeUnknowns, wkGd w := wkGdC rfl (wkGdA (wkGdL (by decide +kernel)) (wkGdA (wkGdA gdX3 gdX9) (wkGdA gdX5_leftSideBy (wkGdA gdX5_rightSideBy (wkGdA gdX9_at gdX9_liesWithin)))))
def rX5_judgeUnknowns_b0 (F : Nat) (rec : Nat → Nat → Nat → Int32 → wPS → (Int32 → wPS → Prop) → Prop) (l1A : Nat) (l2A : Nat) (l3I : Int32) (S : wPS) (Φ : (Int32 → wPS → Prop)) : Prop :=
  if (gEntry_itemCount S l1A) < l3I then (Φ (0 : Int32) S) else (rX5_leftSideBy F l1A l3I l2A S fun v2 S3 => rX5_rightSideBy F l1A l3I l2A S3 fun v7 S8 => if (lg_cmp v2 v7) ≤ 0 then (wkLt (l3I + (1 : Int32)) fun x13 => rec 0 l1A l2A x13 S8 Φ) else (if (gEntry_itemCount S8 l1A) ≤ l3I then (Φ (4 : Int32) S8) else (Φ (3 : Int32) S8)))
def rX5_judgeUnknowns_go (F : Nat) : Nat → Nat → Nat → Nat → Int32 → wPS → (Int32 → wPS → Prop) → Prop
  | 0, _, _, _, _, _, _ => False
  | k' + 1, lab, l1A, l2A, l3I, S, Φ => if lab = 0 then rX5_judgeUnknowns_b0 F (rX5_judgeUnknowns_go F k') l1A l2A l3I S Φ else False
def rX5_judgeUnknowns_s (F : Nat) (rec : Nat → Nat → Nat → Int32 → wPS → (Int32 → wPS → Prop) → Prop) (l0A : Nat) (l1A : Nat) (l2A : Nat) (S : wPS) (Φ : (Int32 → wPS → Prop)) : Prop :=
  if (gRow_count S l2A) = ((gEntry_size S l1A) + (1 : Int32)) then (rX9_at F l2A (0 : Int32) S fun v16 S17 => if (1 : Int32) ≤ v16 then (rX9_liesWithin F l2A (1 : Int32) (0 : Int32) (2147483647 : Int32) S17 fun v22 S23 => if v22 = 0 then (Φ (2 : Int32) S23) else (rec 0 l1A l2A (0 : Int32) S23 Φ)) else (Φ (1 : Int32) S17)) else (Φ (1 : Int32) S)
def rX5_judgeUnknowns (F : Nat) (l0A : Nat) (l1A : Nat) (l2A : Nat) (S : wPS) (Φ : (Int32 → wPS → Prop)) : Prop := rX5_judgeUnknowns_s F (rX5_judgeUnknowns_go F F) l0A l1A l2A S Φ
set_option maxHeartbeats 4000000 in
set_option maxRecDepth 100000 in
theorem tX5_judgeUnknowns_go {l : Launch} {X : wkX} {d F : Nat} {S0 : wPS} {Φ : (Int32 → wPS → Prop)} (C : wkC X cX5_judgeUnknowns RX5 4 wvX5_judgeUnknowns) (hR : wkRm X d 0 0) (hd : 3 ≤ d) (E : wkEnd l X cX5_judgeUnknowns 4 (some .int) 0 0 (fun v' S'' => ∃ v : Int32, v' = some (.int v) ∧ Φ v S'' ∧ wkWF S'' ∧ wkExt S0 S'')) : ∀ k' : Nat, (∀ (l1A : Nat) (l2A : Nat) (l3I : Int32) (S : wPS), wkWF S → wkExt S0 S → wkIs S l1A 3 → wkIs S l2A 9 → rX5_judgeUnknowns_go F k' 0 l1A l2A l3I S Φ → wkGo l X 4 0 0 39 S [none, some (.ref l1A), some (.ref l2A), some (.int l3I)] []) := by
  intro k'
  induction k' with
  | zero => exact fun l1A l2A l3I S hW hE hl1A hl2A h => h.elim
  | succ k' ih =>
    · intro l1A l2A l3I S hW hE hl1A hl2A h
      have h : rX5_judgeUnknowns_b0 F (rX5_judgeUnknowns_go F k') l1A l2A l3I S Φ := by
        rw [rX5_judgeUnknowns_go, if_pos (rfl : (0 : Nat) = 0)] at h
        exact h
      unfold rX5_judgeUnknowns_b0 at h
      refine wk_iload_n C dX5_judgeUnknowns_39 rfl rfl ?_
      refine wk_aload_n C dX5_judgeUnknowns_40 rfl rfl ?_
      refine wk_get C (v := .int (gEntry_itemCount S l1A)) huX5_judgeUnknowns_3 hl1A.1 (fun cy => wAt_3 cy _ hl1A.2) rfl 6 (by decide) (List.mem_of_getElem? (i := 1) rfl) rfl rfl dX5_judgeUnknowns_41 ?_
      refine wk_icmp_gt C (tgt := 83) dX5_judgeUnknowns_44 (by decide) (fun c1 => ?_) (fun c1 => ?_)
      · rw [if_pos c1] at h
        refine wk_iconst C (v := 0) dX5_judgeUnknowns_83 (by decide) ?_
        exact E _ _ _ _ _ _ (Nat.le_refl 0) (Nat.le_refl 0) dX5_judgeUnknowns_84 ⟨(0 : Int32), rfl, h, hW, hE⟩
      · rw [if_neg c1] at h
        refine wk_aload_n C dX5_judgeUnknowns_47 rfl rfl ?_
        refine wk_iload_n C dX5_judgeUnknowns_48 rfl rfl ?_
        refine wk_aload_n C dX5_judgeUnknowns_49 rfl rfl ?_
        refine wk_callW C hR (As := [.ref l1A, .int l3I, .ref l2A]) (cnt := 3) (tX5_leftSideBy (l := l) hW hl1A hl2A h) rfl (wkGoodW (List.mem_of_getElem? (i := 2) rfl) (List.mem_of_getElem? (i := 3) rfl) (List.mem_of_getElem? (i := 4) rfl) hbX5_judgeUnknowns_X5_leftSideBy gdX5_leftSideBy) (Nat.le_trans (by decide : 2 + 1 ≤ 3) hd) (by decide) ⟨by decide, by decide, by decide +kernel⟩ rfl rfl (Nat.le_of_ble_eq_true rfl) (Nat.le_refl 0) (Nat.le_refl 0) dX5_judgeUnknowns_50 (fun v' S3 hp => ?_)
        obtain ⟨v2, rfl, h, hWS3, hXS3⟩ := hp
        refine wk_aload_n C dX5_judgeUnknowns_53 rfl rfl ?_
        refine wk_iload_n C dX5_judgeUnknowns_54 rfl rfl ?_
        refine wk_aload_n C dX5_judgeUnknowns_55 rfl rfl ?_
        refine wk_callW C hR (As := [.ref l1A, .int l3I, .ref l2A]) (cnt := 3) (tX5_rightSideBy (l := l) hWS3 (hXS3 _ _ hl1A) (hXS3 _ _ hl2A) h) rfl (wkGoodW (List.mem_of_getElem? (i := 5) rfl) (List.mem_of_getElem? (i := 6) rfl) (List.mem_of_getElem? (i := 4) rfl) hbX5_judgeUnknowns_X5_rightSideBy gdX5_rightSideBy) (Nat.le_trans (by decide : 2 + 1 ≤ 3) hd) (by decide) ⟨by decide, by decide, by decide +kernel⟩ rfl rfl (Nat.le_of_ble_eq_true rfl) (Nat.le_refl 0) (Nat.le_refl 0) dX5_judgeUnknowns_56 (fun v' S8 hp => ?_)
        obtain ⟨v7, rfl, h, hWS8, hXS8⟩ := hp
        refine wk_lcmp C dX5_judgeUnknowns_59 rfl ?_
        refine wk_if_le C (tgt := 77) dX5_judgeUnknowns_60 (by decide) (fun c12 => ?_) (fun c12 => ?_)
        · rw [if_pos c12] at h
          obtain ⟨x13, ex13, h⟩ := wkLt_some h
          refine wk_iinc C (lv' := [none, some (.ref l1A), some (.ref l2A), some (.int x13)]) dX5_judgeUnknowns_77 rfl (by rw [ex13]; rfl) (by decide) rfl ?_
          refine wk_goto C (tgt := 39) dX5_judgeUnknowns_80 (by decide) ?_
          exact wk_forget (lv' := [none, some (.ref l1A), some (.ref l2A), some (.int x13)]) (wkLs.le ⟨rfl, rfl, rfl, trivial⟩) (ih _ _ _ _ hWS8 (wkExt.tr (wkExt.tr hE hXS3) hXS8) (hXS8 _ _ (hXS3 _ _ hl1A)) (hXS8 _ _ (hXS3 _ _ hl2A)) h)
        · rw [if_neg c12] at h
          refine wk_iload_n C dX5_judgeUnknowns_63 rfl rfl ?_
          refine wk_aload_n C dX5_judgeUnknowns_64 rfl rfl ?_
          refine wk_get C (v := .int (gEntry_itemCount S8 l1A)) huX5_judgeUnknowns_3 (hXS8 _ _ (hXS3 _ _ hl1A)).1 (fun cy => wAt_3 cy _ (hXS8 _ _ (hXS3 _ _ hl1A)).2) rfl 6 (by decide) (List.mem_of_getElem? (i := 1) rfl) rfl rfl dX5_judgeUnknowns_65 ?_
          refine wk_icmp_ge C (tgt := 75) dX5_judgeUnknowns_68 (by decide) (fun c14 => ?_) (fun c14 => ?_)
          · rw [if_pos c14] at h
            refine wk_iconst C (v := 4) dX5_judgeUnknowns_75 (by decide) ?_
            exact E _ _ _ _ _ _ (Nat.le_refl 0) (Nat.le_refl 0) dX5_judgeUnknowns_76 ⟨(4 : Int32), rfl, h, hWS8, (wkExt.tr (wkExt.tr hE hXS3) hXS8)⟩
          · rw [if_neg c14] at h
            refine wk_iconst C (v := 3) dX5_judgeUnknowns_71 (by decide) ?_
            refine wk_goto C (tgt := 76) dX5_judgeUnknowns_72 (by decide) ?_
            exact E _ _ _ _ _ _ (Nat.le_refl 0) (Nat.le_refl 0) dX5_judgeUnknowns_76 ⟨(3 : Int32), rfl, h, hWS8, (wkExt.tr (wkExt.tr hE hXS3) hXS8)⟩
set_option maxHeartbeats 4000000 in
set_option maxRecDepth 100000 in
theorem tX5_judgeUnknowns {l : Launch} {g : wkG} {F : Nat}  {S : wPS} {l0A : Nat} {l1A : Nat} {l2A : Nat} {Φ : (Int32 → wPS → Prop)} (hW : wkWF S) (hl0A : wkIs S l0A 5) (hl1A : wkIs S l1A 3) (hl2A : wkIs S l2A 9) (h : rX5_judgeUnknowns F l0A l1A l2A S Φ) : wkMet l g yX5_judgeUnknowns wvX5_judgeUnknowns 3 0 0 [.ref l0A, .ref l1A, .ref l2A] S (fun v' S'' => ∃ v : Int32, v' = some (.int v) ∧ Φ v S'' ∧ wkWF S'' ∧ wkExt S S'') := by
  refine wkMet_of (ret := (some .int)) (by decide) rfl (Nat.le_of_ble_eq_true rfl) (fun X hg C hR E => ?_)
  subst hg
  have hE : wkExt S S := wkExt.rf
  have hd : 3 ≤ 3 := Nat.le_refl _
  show wkGo l X 4 0 0 0 S [some (.ref l0A), some (.ref l1A), some (.ref l2A), none] []
  have ih := tX5_judgeUnknowns_go (F := F) C hR hd E F
  have h : rX5_judgeUnknowns_s F (rX5_judgeUnknowns_go F F) l0A l1A l2A S Φ := h
  unfold rX5_judgeUnknowns_s at h
  refine wk_aload_n C dX5_judgeUnknowns_0 rfl rfl ?_
  refine wk_get C (v := .int (gRow_count S l2A)) huX5_judgeUnknowns_9 hl2A.1 (fun cy => wAt_9 cy _ hl2A.2) rfl 1 (by decide) (List.mem_of_getElem? (i := 7) rfl) rfl rfl dX5_judgeUnknowns_1 ?_
  refine wk_aload_n C dX5_judgeUnknowns_4 rfl rfl ?_
  refine wk_get C (v := .int (gEntry_size S l1A)) huX5_judgeUnknowns_3 hl1A.1 (fun cy => wAt_3 cy _ hl1A.2) rfl 1 (by decide) (List.mem_of_getElem? (i := 8) rfl) rfl rfl dX5_judgeUnknowns_5 ?_
  refine wk_iconst C (v := 1) dX5_judgeUnknowns_8 (by decide) ?_
  refine wk_iadd C dX5_judgeUnknowns_9 rfl ?_
  refine wk_icmp_ne C (tgt := 22) dX5_judgeUnknowns_10 (by decide) (fun c15 => ?_) (fun c15 => ?_)
  · rw [if_neg c15] at h
    refine wk_iconst C (v := 1) dX5_judgeUnknowns_22 (by decide) ?_
    exact E _ _ _ _ _ _ (Nat.le_refl 0) (Nat.le_refl 0) dX5_judgeUnknowns_23 ⟨(1 : Int32), rfl, h, hW, hE⟩
  · rw [if_pos c15] at h
    refine wk_aload_n C dX5_judgeUnknowns_13 rfl rfl ?_
    refine wk_iconst C (v := 0) dX5_judgeUnknowns_14 (by decide) ?_
    refine wk_callV C hR (As := [.int (0 : Int32)]) (cnt := 1) (tX9_at (l := l) hW hl2A h) rfl (wkGoodV (List.mem_of_getElem? (i := 9) rfl) (List.mem_of_getElem? (i := 10) rfl) (List.mem_of_getElem? (i := 11) rfl) (List.mem_of_getElem? (i := 12) rfl) hbX5_judgeUnknowns_X9_at gdX9_at) (Nat.le_trans (by decide : 0 + 1 ≤ 3) hd) (by decide) hl2A.1 (fun cy => wAt_9 cy _ hl2A.2) rfl ⟨by decide, by decide, by decide +kernel⟩ rfl rfl (Nat.le_of_ble_eq_true rfl) (Nat.le_refl 0) (Nat.le_refl 0) dX5_judgeUnknowns_15 (fun v' S17 hp => ?_)
    obtain ⟨v16, rfl, h, hWS17, hXS17⟩ := hp
    refine wk_iconst C (v := 1) dX5_judgeUnknowns_18 (by decide) ?_
    refine wk_icmp_ge C (tgt := 24) dX5_judgeUnknowns_19 (by decide) (fun c21 => ?_) (fun c21 => ?_)
    · rw [if_pos c21] at h
      refine wk_aload_n C dX5_judgeUnknowns_24 rfl rfl ?_
      refine wk_iconst C (v := 1) dX5_judgeUnknowns_25 (by decide) ?_
      refine wk_iconst C (v := 0) dX5_judgeUnknowns_26 (by decide) ?_
      refine wk_ldc C (v := 2147483647) (List.mem_of_getElem? (i := 13) rfl) dX5_judgeUnknowns_27 ?_
      refine wk_callV C hR (As := [.int (1 : Int32), .int (0 : Int32), .int (2147483647 : Int32)]) (cnt := 3) (tX9_liesWithin (l := l) hWS17 (hXS17 _ _ hl2A) h) rfl (wkGoodV (List.mem_of_getElem? (i := 14) rfl) (List.mem_of_getElem? (i := 15) rfl) (List.mem_of_getElem? (i := 16) rfl) (List.mem_of_getElem? (i := 12) rfl) hbX5_judgeUnknowns_X9_liesWithin gdX9_liesWithin) (Nat.le_trans (by decide : 0 + 1 ≤ 3) hd) (by decide) (hXS17 _ _ hl2A).1 (fun cy => wAt_9 cy _ (hXS17 _ _ hl2A).2) rfl ⟨by decide, by decide, by decide +kernel⟩ rfl rfl (Nat.le_of_ble_eq_true rfl) (Nat.le_refl 0) (Nat.le_refl 0) dX5_judgeUnknowns_29 (fun v' S23 hp => ?_)
      obtain ⟨v22, rfl, h, hWS23, hXS23⟩ := hp
      refine wk_if_ne C (tgt := 37) dX5_judgeUnknowns_32 (by decide) (fun c27 => ?_) (fun c27 => ?_)
      · rw [if_neg c27] at h
        refine wk_iconst C (v := 0) dX5_judgeUnknowns_37 (by decide) ?_
        refine wk_istore_n C (lv' := [some (.ref l0A), some (.ref l1A), some (.ref l2A), some (.int (0 : Int32))]) dX5_judgeUnknowns_38 rfl (by decide) rfl ?_
        exact wk_forget (lv' := [none, some (.ref l1A), some (.ref l2A), some (.int (0 : Int32))]) (wkLs.le ⟨rfl, rfl, rfl, trivial⟩) (ih _ _ _ _ hWS23 (wkExt.tr (wkExt.tr hE hXS17) hXS23) (hXS23 _ _ (hXS17 _ _ hl1A)) (hXS23 _ _ (hXS17 _ _ hl2A)) h)
      · rw [if_pos c27] at h
        refine wk_iconst C (v := 2) dX5_judgeUnknowns_35 (by decide) ?_
        exact E _ _ _ _ _ _ (Nat.le_refl 0) (Nat.le_refl 0) dX5_judgeUnknowns_36 ⟨(2 : Int32), rfl, h, hWS23, (wkExt.tr (wkExt.tr hE hXS17) hXS23)⟩
    · rw [if_neg c21] at h
      refine wk_iconst C (v := 1) dX5_judgeUnknowns_22 (by decide) ?_
      exact E _ _ _ _ _ _ (Nat.le_refl 0) (Nat.le_refl 0) dX5_judgeUnknowns_23 ⟨(1 : Int32), rfl, h, hWS17, (wkExt.tr hE hXS17)⟩
def wvX5_judgeWeights : List Cond := .code yX5_judgeWeights cX5_judgeWeights 8 (some .int) :: (([.fieldLink RX5 37 "Witnessworks$Entry" "size" "I", .methodLink RX5 96 yX5_times, .static yX5_times, .initialized RX5, .methodLink RX5 143 yX9_at, .instanceMethod yX9_at, .selects RX9 yX9_at yX9_at, .initialized RX9, .methodLink RX5 92 yX5_limitOf, .static yX5_limitOf, .fieldLink RX5 23 "Witnessworks$Entry" "itemCount" "I", .fieldLink RX5 152 "Witnessworks$Row" "count" "I", .constant RX5 155 (2147483647), .methodLink RX5 156 yX9_liesWithin, .instanceMethod yX9_liesWithin, .selects RX9 yX9_liesWithin yX9_liesWithin] : List Cond) ++ ((wsX30 ++ (wsX90)) ++ (wvX5_times ++ (wvX9_at ++ (wvX5_limitOf ++ (wvX9_liesWithin))))))
theorem huX5_judgeWeights_3 : ∀ w ∈ u_ws RX3 TX3 17, w ∈ wvX5_judgeWeights := fun w h => List.mem_cons_of_mem _ (List.mem_append_right _ (List.mem_append_left _ (List.mem_append_left _ h)))
theorem huX5_judgeWeights_9 : ∀ w ∈ u_ws RX9 TX9 2, w ∈ wvX5_judgeWeights := fun w h => List.mem_cons_of_mem _ (List.mem_append_right _ (List.mem_append_left _ (List.mem_append_right _ h)))
theorem hbX5_judgeWeights_X5_times : ∀ w ∈ wvX5_times, w ∈ wvX5_judgeWeights := fun w h => List.mem_cons_of_mem _ (List.mem_append_right _ (List.mem_append_right _ (List.mem_append_left _ h)))
theorem hbX5_judgeWeights_X9_at : ∀ w ∈ wvX9_at, w ∈ wvX5_judgeWeights := fun w h => List.mem_cons_of_mem _ (List.mem_append_right _ (List.mem_append_right _ (List.mem_append_right _ (List.mem_append_left _ h))))
theorem hbX5_judgeWeights_X5_limitOf : ∀ w ∈ wvX5_limitOf, w ∈ wvX5_judgeWeights := fun w h => List.mem_cons_of_mem _ (List.mem_append_right _ (List.mem_append_right _ (List.mem_append_right _ (List.mem_append_right _ (List.mem_append_left _ h)))))
theorem hbX5_judgeWeights_X9_liesWithin : ∀ w ∈ wvX9_liesWithin, w ∈ wvX5_judgeWeights := fun w h => List.mem_cons_of_mem _ (List.mem_append_right _ (List.mem_append_right _ (List.mem_append_right _ (List.mem_append_right _ (List.mem_append_right _ h)))))
theorem gdX5_judgeWeights : ∀ w ∈ wvX5_judgeWeights, wkGd w := wkGdC rfl (wkGdA (wkGdL (by decide +kernel)) (wkGdA (wkGdA gdX3 gdX9) (wkGdA gdX5_times (wkGdA gdX9_at (wkGdA gdX5_limitOf gdX9_liesWithin)))))
def rX5_judgeWeights_b0 (F : Nat) (rec : Nat → Nat → Nat → Int32 → Int32 → Int64 → Int64 → Int32 → Int32 → wPS → (Int32 → wPS → Prop) → Prop) (l1A : Nat) (l2A : Nat) (l3I : Int32) (l4I : Int32) (S : wPS) (Φ : (Int32 → wPS → Prop)) : Prop :=
  if (gEntry_size S l1A) ≤ l4I then (rec 2 l1A l2A l3I 0 (0 : Int64) 0 (0 : Int32) 0 S Φ) else (rec 1 l1A l2A l3I l4I 0 (0 : Int64) 0 (0 : Int32) S Φ)
def rX5_judgeWeights_b1 (F : Nat) (rec : Nat → Nat → Nat → Int32 → Int32 → Int64 → Int64 → Int32 → Int32 → wPS → (Int32 → wPS → Prop) → Prop) (l1A : Nat) (l2A : Nat) (l3I : Int32) (l4I : Int32) (l5J : Int64) (l7I : Int32) (S : wPS) (Φ : (Int32 → wPS → Prop)) : Prop :=
  if l3I ≤ l7I then (if 0 ≤ (lg_cmp l5J (0 : Int64)) then (wkLt (l4I + (1 : Int32)) fun x4 => rec 0 l1A l2A l3I x4 0 0 0 0 S Φ) else (Φ (3 : Int32) S)) else (rX5_times F l1A l7I l4I S fun v5 S6 => rX9_at F l2A (l7I + (1 : Int32)) S6 fun v10 S11 => wkLt ((l5J + ((Int32.toInt64 v5) * (Int32.toInt64 v10)))) fun x15 => wkLt (l7I + (1 : Int32)) fun x16 => rec 1 l1A l2A l3I l4I 0 x15 0 x16 S11 Φ)
def rX5_judgeWeights_b2 (F : Nat) (rec : Nat → Nat → Nat → Int32 → Int32 → Int64 → Int64 → Int32 → Int32 → wPS → (Int32 → wPS → Prop) → Prop) (l1A : Nat) (l2A : Nat) (l3I : Int32) (l4J : Int64) (l6I : Int32) (S : wPS) (Φ : (Int32 → wPS → Prop)) : Prop :=
  if l3I ≤ l6I then (rX9_at F l2A (0 : Int32) S fun v18 S19 => if (lg_cmp l4J (-(Int32.toInt64 v18))) = 0 then (Φ (0 : Int32) S19) else (Φ (4 : Int32) S19)) else (rX5_limitOf F l1A l6I S fun v24 S25 => rX9_at F l2A (l6I + (1 : Int32)) S25 fun v29 S30 => wkLt ((l4J + ((Int32.toInt64 v24) * (Int32.toInt64 v29)))) fun x34 => wkLt (l6I + (1 : Int32)) fun x35 => rec 2 l1A l2A l3I 0 x34 0 x35 0 S30 Φ)
def rX5_judgeWeights_go (F : Nat) : Nat → Nat → Nat → Nat → Int32 → Int32 → Int64 → Int64 → Int32 → Int32 → wPS → (Int32 → wPS → Prop) → Prop
  | 0, _, _, _, _, _, _, _, _, _, _, _ => False
  | k' + 1, lab, l1A, l2A, l3I, l4I, l4J, l5J, l6I, l7I, S, Φ => if lab = 0 then rX5_judgeWeights_b0 F (rX5_judgeWeights_go F k') l1A l2A l3I l4I S Φ else if lab = 1 then rX5_judgeWeights_b1 F (rX5_judgeWeights_go F k') l1A l2A l3I l4I l5J l7I S Φ else if lab = 2 then rX5_judgeWeights_b2 F (rX5_judgeWeights_go F k') l1A l2A l3I l4J l6I S Φ else False
def rX5_judgeWeights_s (F : Nat) (rec : Nat → Nat → Nat → Int32 → Int32 → Int64 → Int64 → Int32 → Int32 → wPS → (Int32 → wPS → Prop) → Prop) (l0A : Nat) (l1A : Nat) (l2A : Nat) (S : wPS) (Φ : (Int32 → wPS → Prop)) : Prop :=
  wkLt (((gEntry_itemCount S l1A) + (1 : Int32))) fun x36 => if (gRow_count S l2A) = (x36 + (1 : Int32)) then (rX9_at F l2A (0 : Int32) S fun v38 S39 => if (1 : Int32) ≤ v38 then (rX9_liesWithin F l2A (1 : Int32) (0 : Int32) (2147483647 : Int32) S39 fun v44 S45 => if v44 = 0 then (Φ (2 : Int32) S45) else (rec 0 l1A l2A x36 (0 : Int32) 0 0 0 0 S45 Φ)) else (Φ (1 : Int32) S39)) else (Φ (1 : Int32) S)
def rX5_judgeWeights (F : Nat) (l0A : Nat) (l1A : Nat) (l2A : Nat) (S : wPS) (Φ : (Int32 → wPS → Prop)) : Prop := rX5_judgeWeights_s F (rX5_judgeWeights_go F F) l0A l1A l2A S Φ
set_option maxHeartbeats 4000000 in
set_option maxRecDepth 100000 in
theorem tX5_judgeWeights_go {l : Launch} {X : wkX} {d F : Nat} {S0 : wPS} {Φ : (Int32 → wPS → Prop)} (C : wkC X cX5_judgeWeights RX5 8 wvX5_judgeWeights) (hR : wkRm X d 0 0) (hd : 2 ≤ d) (E : wkEnd l X cX5_judgeWeights 8 (some .int) 0 0 (fun v' S'' => ∃ v : Int32, v' = some (.int v) ∧ Φ v S'' ∧ wkWF S'' ∧ wkExt S0 S'')) : ∀ k' : Nat, (∀ (l1A : Nat) (l2A : Nat) (l3I : Int32) (l4I : Int32) (S : wPS), wkWF S → wkExt S0 S → wkIs S l1A 3 → wkIs S l2A 9 → rX5_judgeWeights_go F k' 0 l1A l2A l3I l4I 0 0 0 0 S Φ → wkGo l X 8 0 0 44 S [none, some (.ref l1A), some (.ref l2A), some (.int l3I), some (.int l4I), none, none, none] []) ∧ (∀ (l1A : Nat) (l2A : Nat) (l3I : Int32) (l4I : Int32) (l5J : Int64) (l7I : Int32) (S : wPS), wkWF S → wkExt S0 S → wkIs S l1A 3 → wkIs S l2A 9 → rX5_judgeWeights_go F k' 1 l1A l2A l3I l4I 0 l5J 0 l7I S Φ → wkGo l X 8 0 0 59 S [none, some (.ref l1A), some (.ref l2A), some (.int l3I), some (.int l4I), some (.long l5J), none, some (.int l7I)] []) ∧ (∀ (l1A : Nat) (l2A : Nat) (l3I : Int32) (l4J : Int64) (l6I : Int32) (S : wPS), wkWF S → wkExt S0 S → wkIs S l1A 3 → wkIs S l2A 9 → rX5_judgeWeights_go F k' 2 l1A l2A l3I 0 l4J 0 l6I 0 S Φ → wkGo l X 8 0 0 116 S [none, some (.ref l1A), some (.ref l2A), some (.int l3I), some (.long l4J), none, some (.int l6I), none] []) := by
  intro k'
  induction k' with
  | zero => exact ⟨fun l1A l2A l3I l4I S hW hE hl1A hl2A h => h.elim, fun l1A l2A l3I l4I l5J l7I S hW hE hl1A hl2A h => h.elim, fun l1A l2A l3I l4J l6I S hW hE hl1A hl2A h => h.elim⟩
  | succ k' ih =>
    refine ⟨?_, ?_, ?_⟩
    · intro l1A l2A l3I l4I S hW hE hl1A hl2A h
      have h : rX5_judgeWeights_b0 F (rX5_judgeWeights_go F k') l1A l2A l3I l4I S Φ := by
        rw [rX5_judgeWeights_go, if_pos (rfl : (0 : Nat) = 0)] at h
        exact h
      unfold rX5_judgeWeights_b0 at h
      refine wk_iload C dX5_judgeWeights_44 rfl ?_
      refine wk_aload_n C dX5_judgeWeights_46 rfl rfl ?_
      refine wk_get C (v := .int (gEntry_size S l1A)) huX5_judgeWeights_3 hl1A.1 (fun cy => wAt_3 cy _ hl1A.2) rfl 1 (by decide) (List.mem_of_getElem? (i := 1) rfl) rfl rfl dX5_judgeWeights_47 ?_
      refine wk_icmp_ge C (tgt := 110) dX5_judgeWeights_50 (by decide) (fun c1 => ?_) (fun c1 => ?_)
      · rw [if_pos c1] at h
        refine wk_lconst C (v := 0) dX5_judgeWeights_110 (by decide) ?_
        refine wk_lstore C (lv' := [none, some (.ref l1A), some (.ref l2A), some (.int l3I), some (.long (0 : Int64)), none, none, none]) dX5_judgeWeights_111 (by decide) rfl ?_
        refine wk_iconst C (v := 0) dX5_judgeWeights_113 (by decide) ?_
        refine wk_istore C (lv' := [none, some (.ref l1A), some (.ref l2A), some (.int l3I), some (.long (0 : Int64)), none, some (.int (0 : Int32)), none]) dX5_judgeWeights_114 (by decide) rfl ?_
        exact wk_forget (lv' := [none, some (.ref l1A), some (.ref l2A), some (.int l3I), some (.long (0 : Int64)), none, some (.int (0 : Int32)), none]) (wkLs.le ⟨rfl, rfl, rfl, rfl, rfl, trivial⟩) (ih.2.2 _ _ _ _ _ _ hW hE hl1A hl2A h)
      · rw [if_neg c1] at h
        refine wk_lconst C (v := 0) dX5_judgeWeights_53 (by decide) ?_
        refine wk_lstore C (lv' := [none, some (.ref l1A), some (.ref l2A), some (.int l3I), some (.int l4I), some (.long (0 : Int64)), none, none]) dX5_judgeWeights_54 (by decide) rfl ?_
        refine wk_iconst C (v := 0) dX5_judgeWeights_56 (by decide) ?_
        refine wk_istore C (lv' := [none, some (.ref l1A), some (.ref l2A), some (.int l3I), some (.int l4I), some (.long (0 : Int64)), none, some (.int (0 : Int32))]) dX5_judgeWeights_57 (by decide) rfl ?_
        exact wk_forget (lv' := [none, some (.ref l1A), some (.ref l2A), some (.int l3I), some (.int l4I), some (.long (0 : Int64)), none, some (.int (0 : Int32))]) (wkLs.le ⟨rfl, rfl, rfl, rfl, rfl, rfl, trivial⟩) (ih.2.1 _ _ _ _ _ _ _ hW hE hl1A hl2A h)
    · intro l1A l2A l3I l4I l5J l7I S hW hE hl1A hl2A h
      have h : rX5_judgeWeights_b1 F (rX5_judgeWeights_go F k') l1A l2A l3I l4I l5J l7I S Φ := by
        rw [rX5_judgeWeights_go, if_neg (show ¬ (1 : Nat) = 0 by decide), if_pos (rfl : (1 : Nat) = 1)] at h
        exact h
      unfold rX5_judgeWeights_b1 at h
      refine wk_iload C dX5_judgeWeights_59 rfl ?_
      refine wk_iload_n C dX5_judgeWeights_61 rfl rfl ?_
      refine wk_icmp_ge C (tgt := 95) dX5_judgeWeights_62 (by decide) (fun c2 => ?_) (fun c2 => ?_)
      · rw [if_pos c2] at h
        refine wk_lload C dX5_judgeWeights_95 rfl ?_
        refine wk_lconst C (v := 0) dX5_judgeWeights_97 (by decide) ?_
        refine wk_lcmp C dX5_judgeWeights_98 rfl ?_
        refine wk_if_ge C (tgt := 104) dX5_judgeWeights_99 (by decide) (fun c3 => ?_) (fun c3 => ?_)
        · rw [if_pos c3] at h
          obtain ⟨x4, ex4, h⟩ := wkLt_some h
          refine wk_iinc C (lv' := [none, some (.ref l1A), some (.ref l2A), some (.int l3I), some (.int x4), some (.long l5J), none, some (.int l7I)]) dX5_judgeWeights_104 rfl (by rw [ex4]; rfl) (by decide) rfl ?_
          refine wk_goto C (tgt := 44) dX5_judgeWeights_107 (by decide) ?_
          exact wk_forget (lv' := [none, some (.ref l1A), some (.ref l2A), some (.int l3I), some (.int x4), none, none, none]) (wkLs.le ⟨rfl, rfl, rfl, rfl, trivial⟩) (ih.1 _ _ _ _ _ hW hE hl1A hl2A h)
        · rw [if_neg c3] at h
          refine wk_iconst C (v := 3) dX5_judgeWeights_102 (by decide) ?_
          exact E _ _ _ _ _ _ (Nat.le_refl 0) (Nat.le_refl 0) dX5_judgeWeights_103 ⟨(3 : Int32), rfl, h, hW, hE⟩
      · rw [if_neg c2] at h
        refine wk_lload C dX5_judgeWeights_65 rfl ?_
        refine wk_aload_n C dX5_judgeWeights_67 rfl rfl ?_
        refine wk_iload C dX5_judgeWeights_68 rfl ?_
        refine wk_iload C dX5_judgeWeights_70 rfl ?_
        refine wk_callW C hR (As := [.ref l1A, .int l7I, .int l4I]) (cnt := 3) (tX5_times (l := l) hW hl1A h) rfl (wkGoodW (List.mem_of_getElem? (i := 2) rfl) (List.mem_of_getElem? (i := 3) rfl) (List.mem_of_getElem? (i := 4) rfl) hbX5_judgeWeights_X5_times gdX5_times) (Nat.le_trans (by decide : 1 + 1 ≤ 2) hd) (by decide) ⟨by decide, by decide, by decide +kernel⟩ rfl rfl (Nat.le_of_ble_eq_true rfl) (Nat.le_refl 0) (Nat.le_refl 0) dX5_judgeWeights_72 (fun v' S6 hp => ?_)
        obtain ⟨v5, rfl, h, hWS6, hXS6⟩ := hp
        refine wk_i2l C dX5_judgeWeights_75 rfl ?_
        refine wk_aload_n C dX5_judgeWeights_76 rfl rfl ?_
        refine wk_iload C dX5_judgeWeights_77 rfl ?_
        refine wk_iconst C (v := 1) dX5_judgeWeights_79 (by decide) ?_
        refine wk_iadd C dX5_judgeWeights_80 rfl ?_
        refine wk_callV C hR (As := [.int (l7I + (1 : Int32))]) (cnt := 1) (tX9_at (l := l) hWS6 (hXS6 _ _ hl2A) h) rfl (wkGoodV (List.mem_of_getElem? (i := 5) rfl) (List.mem_of_getElem? (i := 6) rfl) (List.mem_of_getElem? (i := 7) rfl) (List.mem_of_getElem? (i := 8) rfl) hbX5_judgeWeights_X9_at gdX9_at) (Nat.le_trans (by decide : 0 + 1 ≤ 2) hd) (by decide) (hXS6 _ _ hl2A).1 (fun cy => wAt_9 cy _ (hXS6 _ _ hl2A).2) rfl ⟨by decide, by decide, by decide +kernel⟩ rfl rfl (Nat.le_of_ble_eq_true rfl) (Nat.le_refl 0) (Nat.le_refl 0) dX5_judgeWeights_81 (fun v' S11 hp => ?_)
        obtain ⟨v10, rfl, h, hWS11, hXS11⟩ := hp
        refine wk_i2l C dX5_judgeWeights_84 rfl ?_
        refine wk_lmul C dX5_judgeWeights_85 rfl ?_
        refine wk_ladd C dX5_judgeWeights_86 rfl ?_
        obtain ⟨x15, ex15, h⟩ := wkLt_some h
        refine wk_topl ex15 ?_
        refine wk_lstore C (lv' := [none, some (.ref l1A), some (.ref l2A), some (.int l3I), some (.int l4I), some (.long x15), none, some (.int l7I)]) dX5_judgeWeights_87 (by decide) rfl ?_
        obtain ⟨x16, ex16, h⟩ := wkLt_some h
        refine wk_iinc C (lv' := [none, some (.ref l1A), some (.ref l2A), some (.int l3I), some (.int l4I), some (.long x15), none, some (.int x16)]) dX5_judgeWeights_89 rfl (by rw [ex16]; rfl) (by decide) rfl ?_
        refine wk_goto C (tgt := 59) dX5_judgeWeights_92 (by decide) ?_
        exact wk_forget (lv' := [none, some (.ref l1A), some (.ref l2A), some (.int l3I), some (.int l4I), some (.long x15), none, some (.int x16)]) (wkLs.le ⟨rfl, rfl, rfl, rfl, rfl, rfl, trivial⟩) (ih.2.1 _ _ _ _ _ _ _ hWS11 (wkExt.tr (wkExt.tr hE hXS6) hXS11) (hXS11 _ _ (hXS6 _ _ hl1A)) (hXS11 _ _ (hXS6 _ _ hl2A)) h)
    · intro l1A l2A l3I l4J l6I S hW hE hl1A hl2A h
      have h : rX5_judgeWeights_b2 F (rX5_judgeWeights_go F k') l1A l2A l3I l4J l6I S Φ := by
        rw [rX5_judgeWeights_go, if_neg (show ¬ (2 : Nat) = 0 by decide), if_neg (show ¬ (2 : Nat) = 1 by decide), if_pos (rfl : (2 : Nat) = 2)] at h
        exact h
      unfold rX5_judgeWeights_b2 at h
      refine wk_iload C dX5_judgeWeights_116 rfl ?_
      refine wk_iload_n C dX5_judgeWeights_118 rfl rfl ?_
      refine wk_icmp_ge C (tgt := 150) dX5_judgeWeights_119 (by decide) (fun c17 => ?_) (fun c17 => ?_)
      · rw [if_pos c17] at h
        refine wk_lload C dX5_judgeWeights_150 rfl ?_
        refine wk_aload_n C dX5_judgeWeights_152 rfl rfl ?_
        refine wk_iconst C (v := 0) dX5_judgeWeights_153 (by decide) ?_
        refine wk_callV C hR (As := [.int (0 : Int32)]) (cnt := 1) (tX9_at (l := l) hW hl2A h) rfl (wkGoodV (List.mem_of_getElem? (i := 5) rfl) (List.mem_of_getElem? (i := 6) rfl) (List.mem_of_getElem? (i := 7) rfl) (List.mem_of_getElem? (i := 8) rfl) hbX5_judgeWeights_X9_at gdX9_at) (Nat.le_trans (by decide : 0 + 1 ≤ 2) hd) (by decide) hl2A.1 (fun cy => wAt_9 cy _ hl2A.2) rfl ⟨by decide, by decide, by decide +kernel⟩ rfl rfl (Nat.le_of_ble_eq_true rfl) (Nat.le_refl 0) (Nat.le_refl 0) dX5_judgeWeights_154 (fun v' S19 hp => ?_)
        obtain ⟨v18, rfl, h, hWS19, hXS19⟩ := hp
        refine wk_i2l C dX5_judgeWeights_157 rfl ?_
        refine wk_lneg C dX5_judgeWeights_158 rfl ?_
        refine wk_lcmp C dX5_judgeWeights_159 rfl ?_
        refine wk_if_ne C (tgt := 167) dX5_judgeWeights_160 (by decide) (fun c23 => ?_) (fun c23 => ?_)
        · rw [if_neg c23] at h
          refine wk_iconst C (v := 4) dX5_judgeWeights_167 (by decide) ?_
          exact E _ _ _ _ _ _ (Nat.le_refl 0) (Nat.le_refl 0) dX5_judgeWeights_168 ⟨(4 : Int32), rfl, h, hWS19, (wkExt.tr hE hXS19)⟩
        · rw [if_pos c23] at h
          refine wk_iconst C (v := 0) dX5_judgeWeights_163 (by decide) ?_
          refine wk_goto C (tgt := 168) dX5_judgeWeights_164 (by decide) ?_
          exact E _ _ _ _ _ _ (Nat.le_refl 0) (Nat.le_refl 0) dX5_judgeWeights_168 ⟨(0 : Int32), rfl, h, hWS19, (wkExt.tr hE hXS19)⟩
      · rw [if_neg c17] at h
        refine wk_lload C dX5_judgeWeights_122 rfl ?_
        refine wk_aload_n C dX5_judgeWeights_124 rfl rfl ?_
        refine wk_iload C dX5_judgeWeights_125 rfl ?_
        refine wk_callW C hR (As := [.ref l1A, .int l6I]) (cnt := 2) (tX5_limitOf (l := l) hW hl1A h) rfl (wkGoodW (List.mem_of_getElem? (i := 9) rfl) (List.mem_of_getElem? (i := 10) rfl) (List.mem_of_getElem? (i := 4) rfl) hbX5_judgeWeights_X5_limitOf gdX5_limitOf) (Nat.le_trans (by decide : 1 + 1 ≤ 2) hd) (by decide) ⟨by decide, by decide, by decide +kernel⟩ rfl rfl (Nat.le_of_ble_eq_true rfl) (Nat.le_refl 0) (Nat.le_refl 0) dX5_judgeWeights_127 (fun v' S25 hp => ?_)
        obtain ⟨v24, rfl, h, hWS25, hXS25⟩ := hp
        refine wk_i2l C dX5_judgeWeights_130 rfl ?_
        refine wk_aload_n C dX5_judgeWeights_131 rfl rfl ?_
        refine wk_iload C dX5_judgeWeights_132 rfl ?_
        refine wk_iconst C (v := 1) dX5_judgeWeights_134 (by decide) ?_
        refine wk_iadd C dX5_judgeWeights_135 rfl ?_
        refine wk_callV C hR (As := [.int (l6I + (1 : Int32))]) (cnt := 1) (tX9_at (l := l) hWS25 (hXS25 _ _ hl2A) h) rfl (wkGoodV (List.mem_of_getElem? (i := 5) rfl) (List.mem_of_getElem? (i := 6) rfl) (List.mem_of_getElem? (i := 7) rfl) (List.mem_of_getElem? (i := 8) rfl) hbX5_judgeWeights_X9_at gdX9_at) (Nat.le_trans (by decide : 0 + 1 ≤ 2) hd) (by decide) (hXS25 _ _ hl2A).1 (fun cy => wAt_9 cy _ (hXS25 _ _ hl2A).2) rfl ⟨by decide, by decide, by decide +kernel⟩ rfl rfl (Nat.le_of_ble_eq_true rfl) (Nat.le_refl 0) (Nat.le_refl 0) dX5_judgeWeights_136 (fun v' S30 hp => ?_)
        obtain ⟨v29, rfl, h, hWS30, hXS30⟩ := hp
        refine wk_i2l C dX5_judgeWeights_139 rfl ?_
        refine wk_lmul C dX5_judgeWeights_140 rfl ?_
        refine wk_ladd C dX5_judgeWeights_141 rfl ?_
        obtain ⟨x34, ex34, h⟩ := wkLt_some h
        refine wk_topl ex34 ?_
        refine wk_lstore C (lv' := [none, some (.ref l1A), some (.ref l2A), some (.int l3I), some (.long x34), none, some (.int l6I), none]) dX5_judgeWeights_142 (by decide) rfl ?_
        obtain ⟨x35, ex35, h⟩ := wkLt_some h
        refine wk_iinc C (lv' := [none, some (.ref l1A), some (.ref l2A), some (.int l3I), some (.long x34), none, some (.int x35), none]) dX5_judgeWeights_144 rfl (by rw [ex35]; rfl) (by decide) rfl ?_
        refine wk_goto C (tgt := 116) dX5_judgeWeights_147 (by decide) ?_
        exact wk_forget (lv' := [none, some (.ref l1A), some (.ref l2A), some (.int l3I), some (.long x34), none, some (.int x35), none]) (wkLs.le ⟨rfl, rfl, rfl, rfl, rfl, trivial⟩) (ih.2.2 _ _ _ _ _ _ hWS30 (wkExt.tr (wkExt.tr hE hXS25) hXS30) (hXS30 _ _ (hXS25 _ _ hl1A)) (hXS30 _ _ (hXS25 _ _ hl2A)) h)
set_option maxHeartbeats 4000000 in
set_option maxRecDepth 100000 in
theorem tX5_judgeWeights {l : Launch} {g : wkG} {F : Nat}  {S : wPS} {l0A : Nat} {l1A : Nat} {l2A : Nat} {Φ : (Int32 → wPS → Prop)} (hW : wkWF S) (hl0A : wkIs S l0A 5) (hl1A : wkIs S l1A 3) (hl2A : wkIs S l2A 9) (h : rX5_judgeWeights F l0A l1A l2A S Φ) : wkMet l g yX5_judgeWeights wvX5_judgeWeights 2 0 0 [.ref l0A, .ref l1A, .ref l2A] S (fun v' S'' => ∃ v : Int32, v' = some (.int v) ∧ Φ v S'' ∧ wkWF S'' ∧ wkExt S S'') := by
  refine wkMet_of (ret := (some .int)) (by decide) rfl (Nat.le_of_ble_eq_true rfl) (fun X hg C hR E => ?_)
  subst hg
  have hE : wkExt S S := wkExt.rf
  have hd : 2 ≤ 2 := Nat.le_refl _
  show wkGo l X 8 0 0 0 S [some (.ref l0A), some (.ref l1A), some (.ref l2A), none, none, none, none, none] []
  have ih := tX5_judgeWeights_go (F := F) C hR hd E F
  have h : rX5_judgeWeights_s F (rX5_judgeWeights_go F F) l0A l1A l2A S Φ := h
  unfold rX5_judgeWeights_s at h
  refine wk_aload_n C dX5_judgeWeights_0 rfl rfl ?_
  refine wk_get C (v := .int (gEntry_itemCount S l1A)) huX5_judgeWeights_3 hl1A.1 (fun cy => wAt_3 cy _ hl1A.2) rfl 6 (by decide) (List.mem_of_getElem? (i := 11) rfl) rfl rfl dX5_judgeWeights_1 ?_
  refine wk_iconst C (v := 1) dX5_judgeWeights_4 (by decide) ?_
  refine wk_iadd C dX5_judgeWeights_5 rfl ?_
  obtain ⟨x36, ex36, h⟩ := wkLt_some h
  refine wk_topi ex36 ?_
  refine wk_istore_n C (lv' := [some (.ref l0A), some (.ref l1A), some (.ref l2A), some (.int x36), none, none, none, none]) dX5_judgeWeights_6 rfl (by decide) rfl ?_
  refine wk_aload_n C dX5_judgeWeights_7 rfl rfl ?_
  refine wk_get C (v := .int (gRow_count S l2A)) huX5_judgeWeights_9 hl2A.1 (fun cy => wAt_9 cy _ hl2A.2) rfl 1 (by decide) (List.mem_of_getElem? (i := 12) rfl) rfl rfl dX5_judgeWeights_8 ?_
  refine wk_iload_n C dX5_judgeWeights_11 rfl rfl ?_
  refine wk_iconst C (v := 1) dX5_judgeWeights_12 (by decide) ?_
  refine wk_iadd C dX5_judgeWeights_13 rfl ?_
  refine wk_icmp_ne C (tgt := 26) dX5_judgeWeights_14 (by decide) (fun c37 => ?_) (fun c37 => ?_)
  · rw [if_neg c37] at h
    refine wk_iconst C (v := 1) dX5_judgeWeights_26 (by decide) ?_
    exact E _ _ _ _ _ _ (Nat.le_refl 0) (Nat.le_refl 0) dX5_judgeWeights_27 ⟨(1 : Int32), rfl, h, hW, hE⟩
  · rw [if_pos c37] at h
    refine wk_aload_n C dX5_judgeWeights_17 rfl rfl ?_
    refine wk_iconst C (v := 0) dX5_judgeWeights_18 (by decide) ?_
    refine wk_callV C hR (As := [.int (0 : Int32)]) (cnt := 1) (tX9_at (l := l) hW hl2A h) rfl (wkGoodV (List.mem_of_getElem? (i := 5) rfl) (List.mem_of_getElem? (i := 6) rfl) (List.mem_of_getElem? (i := 7) rfl) (List.mem_of_getElem? (i := 8) rfl) hbX5_judgeWeights_X9_at gdX9_at) (Nat.le_trans (by decide : 0 + 1 ≤ 2) hd) (by decide) hl2A.1 (fun cy => wAt_9 cy _ hl2A.2) rfl ⟨by decide, by decide, by decide +kernel⟩ rfl rfl (Nat.le_of_ble_eq_true rfl) (Nat.le_refl 0) (Nat.le_refl 0) dX5_judgeWeights_19 (fun v' S39 hp => ?_)
    obtain ⟨v38, rfl, h, hWS39, hXS39⟩ := hp
    refine wk_iconst C (v := 1) dX5_judgeWeights_22 (by decide) ?_
    refine wk_icmp_ge C (tgt := 28) dX5_judgeWeights_23 (by decide) (fun c43 => ?_) (fun c43 => ?_)
    · rw [if_pos c43] at h
      refine wk_aload_n C dX5_judgeWeights_28 rfl rfl ?_
      refine wk_iconst C (v := 1) dX5_judgeWeights_29 (by decide) ?_
      refine wk_iconst C (v := 0) dX5_judgeWeights_30 (by decide) ?_
      refine wk_ldc C (v := 2147483647) (List.mem_of_getElem? (i := 13) rfl) dX5_judgeWeights_31 ?_
      refine wk_callV C hR (As := [.int (1 : Int32), .int (0 : Int32), .int (2147483647 : Int32)]) (cnt := 3) (tX9_liesWithin (l := l) hWS39 (hXS39 _ _ hl2A) h) rfl (wkGoodV (List.mem_of_getElem? (i := 14) rfl) (List.mem_of_getElem? (i := 15) rfl) (List.mem_of_getElem? (i := 16) rfl) (List.mem_of_getElem? (i := 8) rfl) hbX5_judgeWeights_X9_liesWithin gdX9_liesWithin) (Nat.le_trans (by decide : 0 + 1 ≤ 2) hd) (by decide) (hXS39 _ _ hl2A).1 (fun cy => wAt_9 cy _ (hXS39 _ _ hl2A).2) rfl ⟨by decide, by decide, by decide +kernel⟩ rfl rfl (Nat.le_of_ble_eq_true rfl) (Nat.le_refl 0) (Nat.le_refl 0) dX5_judgeWeights_33 (fun v' S45 hp => ?_)
      obtain ⟨v44, rfl, h, hWS45, hXS45⟩ := hp
      refine wk_if_ne C (tgt := 41) dX5_judgeWeights_36 (by decide) (fun c49 => ?_) (fun c49 => ?_)
      · rw [if_neg c49] at h
        refine wk_iconst C (v := 0) dX5_judgeWeights_41 (by decide) ?_
        refine wk_istore C (lv' := [some (.ref l0A), some (.ref l1A), some (.ref l2A), some (.int x36), some (.int (0 : Int32)), none, none, none]) dX5_judgeWeights_42 (by decide) rfl ?_
        exact wk_forget (lv' := [none, some (.ref l1A), some (.ref l2A), some (.int x36), some (.int (0 : Int32)), none, none, none]) (wkLs.le ⟨rfl, rfl, rfl, rfl, trivial⟩) (ih.1 _ _ _ _ _ hWS45 (wkExt.tr (wkExt.tr hE hXS39) hXS45) (hXS45 _ _ (hXS39 _ _ hl1A)) (hXS45 _ _ (hXS39 _ _ hl2A)) h)
      · rw [if_pos c49] at h
        refine wk_iconst C (v := 2) dX5_judgeWeights_39 (by decide) ?_
        exact E _ _ _ _ _ _ (Nat.le_refl 0) (Nat.le_refl 0) dX5_judgeWeights_40 ⟨(2 : Int32), rfl, h, hWS45, (wkExt.tr (wkExt.tr hE hXS39) hXS45)⟩
    · rw [if_neg c43] at h
      refine wk_iconst C (v := 1) dX5_judgeWeights_26 (by decide) ?_
      exact E _ _ _ _ _ _ (Nat.le_refl 0) (Nat.le_refl 0) dX5_judgeWeights_27 ⟨(1 : Int32), rfl, h, hWS39, (wkExt.tr hE hXS39)⟩
