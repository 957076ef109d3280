def wvX3_nodeAsked : List Cond := .code yX3_nodeAsked cX3_nodeAsked 1 (some .int) :: (([.fieldLink RX3 48 "Witnessworks$Entry" "boundNow" "I", .fieldLink RX3 42 "Witnessworks$Entry" "size" "I"] : List Cond) ++ ((wsX30) ++ ([])))
theorem huX3_nodeAsked_3 : ∀ w ∈ u_ws RX3 TX3 17, w ∈ wvX3_nodeAsked := fun w h => List.mem_cons_of_mem _ (List.mem_append_right _ (List.mem_append_left _ h))
theorem gdX3_nodeAsked : ∀ w ∈ wvX3_nodeAsked, wkGd w := wkGdC rfl (wkGdA (wkGdL (by decide +kernel)) (wkGdA gdX3 (fun _ h => absurd h List.not_mem_nil)))
def rX3_nodeAsked (F : Nat) (l0A : Nat) (S : wPS) (Φ : (Int32 → wPS → Prop)) : Prop :=
  if (gEntry_size S l0A) ≤ (gEntry_boundNow S l0A) then (Φ ((gEntry_size S l0A) - (1 : Int32)) S) else (Φ (gEntry_boundNow S l0A) S)
set_option maxHeartbeats 4000000 in
set_option maxRecDepth 100000 in
theorem tX3_nodeAsked {l : Launch} {g : wkG} {F : Nat}  {S : wPS} {l0A : Nat} {Φ : (Int32 → wPS → Prop)} (hW : wkWF S) (hl0A : wkIs S l0A 3) (h : rX3_nodeAsked F l0A S Φ) : wkMet l g yX3_nodeAsked wvX3_nodeAsked 0 0 0 [.ref l0A] S (fun v' S'' => ∃ v : Int32, v' = some (.int v) ∧ Φ v S'' ∧ wkWF S'' ∧ wkExt S S'') := by
  refine wkMet_of (ret := (some .int)) (by decide) rfl (Nat.le_of_ble_eq_true rfl) (fun X hg C hR E => ?_)
  subst hg
  have hE : wkExt S S := wkExt.rf
  have hd : 0 ≤ 0 := Nat.le_refl _
  show wkGo l X 1 0 0 0 S [some (.ref l0A)] []
  unfold rX3_nodeAsked at h
  refine wk_aload_n C dX3_nodeAsked_0 rfl rfl ?_
  refine wk_get C (v := .int (gEntry_boundNow S l0A)) huX3_nodeAsked_3 hl0A.1 (fun cy => wAt_3 cy _ hl0A.2) rfl 8 (by decide) (List.mem_of_getElem? (i := 1) rfl) rfl rfl dX3_nodeAsked_1 ?_
  refine wk_aload_n C dX3_nodeAsked_4 rfl rfl ?_
  refine wk_get C (v := .int (gEntry_size S l0A)) huX3_nodeAsked_3 hl0A.1 (fun cy => wAt_3 cy _ hl0A.2) rfl 1 (by decide) (List.mem_of_getElem? (i := 2) rfl) rfl rfl dX3_nodeAsked_5 ?_
  refine wk_icmp_ge C (tgt := 18) dX3_nodeAsked_8 (by decide) (fun c1 => ?_) (fun c1 => ?_)
  · rw [if_pos c1] at h
    refine wk_aload_n C dX3_nodeAsked_18 rfl rfl ?_
    refine wk_get C (v := .int (gEntry_size S l0A)) huX3_nodeAsked_3 hl0A.1 (fun cy => wAt_3 cy _ hl0A.2) rfl 1 (by decide) (List.mem_of_getElem? (i := 2) rfl) rfl rfl dX3_nodeAsked_19 ?_
    refine wk_iconst C (v := 1) dX3_nodeAsked_22 (by decide) ?_
    refine wk_isub C dX3_nodeAsked_23 rfl ?_
    exact E _ _ _ _ _ _ (Nat.le_refl 0) (Nat.le_refl 0) dX3_nodeAsked_24 ⟨((gEntry_size S l0A) - (1 : Int32)), rfl, h, hW, hE⟩
  · rw [if_neg c1] at h
    refine wk_aload_n C dX3_nodeAsked_11 rfl rfl ?_
    refine wk_get C (v := .int (gEntry_boundNow S l0A)) huX3_nodeAsked_3 hl0A.1 (fun cy => wAt_3 cy _ hl0A.2) rfl 8 (by decide) (List.mem_of_getElem? (i := 1) rfl) rfl rfl dX3_nodeAsked_12 ?_
    refine wk_goto C (tgt := 24) dX3_nodeAsked_15 (by decide) ?_
    exact E _ _ _ _ _ _ (Nat.le_refl 0) (Nat.le_refl 0) dX3_nodeAsked_24 ⟨(gEntry_boundNow S l0A), rfl, h, hW, hE⟩
def wvX4_isWithin : List Cond := .code yX4_isWithin cX4_isWithin 3 (some .boolean) :: (([] : List Cond) ++ (([]) ++ ([])))
theorem gdX4_isWithin : ∀ w ∈ wvX4_isWithin, wkGd w := wkGdC rfl (wkGdA (wkGdL (by decide +kernel)) (wkGdA (fun _ h => absurd h List.not_mem_nil) (fun _ h => absurd h List.not_mem_nil)))
def rX4_isWithin (F : Nat) (l0I : Int32) (l1I : Int32) (l2I : Int32) (S : wPS) (Φ : (Int32 → wPS → Prop)) : Prop :=
  if l0I < l1I then (Φ (0 : Int32) S) else (if l2I < l0I then (Φ (0 : Int32) S) else (Φ (1 : Int32) S))
set_option maxHeartbeats 4000000 in
set_option maxRecDepth 100000 in
theorem tX4_isWithin {l : Launch} {g : wkG} {F : Nat}  {S : wPS} {l0I : Int32} {l1I : Int32} {l2I : Int32} {Φ : (Int32 → wPS → Prop)} (hW : wkWF S)  (h : rX4_isWithin F l0I l1I l2I S Φ) : wkMet l g yX4_isWithin wvX4_isWithin 0 0 0 [.int l0I, .int l1I, .int l2I] S (fun v' S'' => ∃ v : Int32, v' = some (.int v) ∧ Φ v S'' ∧ wkWF S'' ∧ wkExt S S'') := by
  refine wkMet_of (ret := (some .boolean)) (by decide) rfl (Nat.le_of_ble_eq_true rfl) (fun X hg C hR E => ?_)
  subst hg
  have hE : wkExt S S := wkExt.rf
  have hd : 0 ≤ 0 := Nat.le_refl _
  show wkGo l X 3 0 0 0 S [some (.int l0I), some (.int l1I), some (.int l2I)] []
  unfold rX4_isWithin at h
  refine wk_iload_n C dX4_isWithin_0 rfl rfl ?_
  refine wk_iload_n C dX4_isWithin_1 rfl rfl ?_
  refine wk_icmp_lt C (tgt := 14) dX4_isWithin_2 (by decide) (fun c1 => ?_) (fun c1 => ?_)
  · rw [if_pos c1] at h
    refine wk_iconst C (v := 0) dX4_isWithin_14 (by decide) ?_
    exact E _ _ _ _ _ _ (Nat.le_refl 0) (Nat.le_refl 0) dX4_isWithin_15 rfl ⟨(0 : Int32), rfl, h, hW, hE⟩
  · rw [if_neg c1] at h
    refine wk_iload_n C dX4_isWithin_5 rfl rfl ?_
    refine wk_iload_n C dX4_isWithin_6 rfl rfl ?_
    refine wk_icmp_gt C (tgt := 14) dX4_isWithin_7 (by decide) (fun c2 => ?_) (fun c2 => ?_)
    · rw [if_pos c2] at h
      refine wk_iconst C (v := 0) dX4_isWithin_14 (by decide) ?_
      exact E _ _ _ _ _ _ (Nat.le_refl 0) (Nat.le_refl 0) dX4_isWithin_15 rfl ⟨(0 : Int32), rfl, h, hW, hE⟩
    · rw [if_neg c2] at h
      refine wk_iconst C (v := 1) dX4_isWithin_10 (by decide) ?_
      refine wk_goto C (tgt := 15) dX4_isWithin_11 (by decide) ?_
      exact E _ _ _ _ _ _ (Nat.le_refl 0) (Nat.le_refl 0) dX4_isWithin_15 rfl ⟨(1 : Int32), rfl, h, hW, hE⟩
def wvX4_areWithin : List Cond := .code yX4_areWithin cX4_areWithin 4 (some .boolean) :: (([.methodLink RX4 198 yX4_isWithin, .static yX4_isWithin, .initialized RX4] : List Cond) ++ (([]) ++ (wvX4_isWithin)))
theorem hbX4_areWithin_X4_isWithin : ∀ w ∈ wvX4_isWithin, w ∈ wvX4_areWithin := fun w h => List.mem_cons_of_mem _ (List.mem_append_right _ (List.mem_append_right _ h))
theorem gdX4_areWithin : ∀ w ∈ wvX4_areWithin, wkGd w := wkGdC rfl (wkGdA (wkGdL (by decide +kernel)) (wkGdA (fun _ h => absurd h List.not_mem_nil) gdX4_isWithin))
def rX4_areWithin_b0 (F : Nat) (rec : Nat → Nat → Int32 → Int32 → Int32 → wPS → (Int32 → wPS → Prop) → Prop) (l0A : Nat) (l1I : Int32) (l2I : Int32) (l3I : Int32) (S : wPS) (Φ : (Int32 → wPS → Prop)) : Prop :=
  if l1I ≤ l3I then (Φ (1 : Int32) S) else (if (Int32.ofNat (S.len l0A)) ≤ l3I then (Φ (1 : Int32) S) else (¬ (l3I < 0 ∨ S.len l0A ≤ (l3I).toNatClampNeg) ∧ rX4_isWithin F (S.rI l0A (l3I).toNatClampNeg) (-l2I) l2I S fun v4 S5 => if v4 = 0 then (Φ (0 : Int32) S5) else (wkLt (l3I + (1 : Int32)) fun x10 => rec 0 l0A l1I l2I x10 S5 Φ)))
def rX4_areWithin_go (F : Nat) : Nat → Nat → Nat → Int32 → Int32 → Int32 → wPS → (Int32 → wPS → Prop) → Prop
  | 0, _, _, _, _, _, _, _ => False
  | k' + 1, lab, l0A, l1I, l2I, l3I, S, Φ => if lab = 0 then rX4_areWithin_b0 F (rX4_areWithin_go F k') l0A l1I l2I l3I S Φ else False
def rX4_areWithin_s (F : Nat) (rec : Nat → Nat → Int32 → Int32 → Int32 → wPS → (Int32 → wPS → Prop) → Prop) (l0A : Nat) (l1I : Int32) (l2I : Int32) (S : wPS) (Φ : (Int32 → wPS → Prop)) : Prop :=
  rec 0 l0A l1I l2I (0 : Int32) S Φ
def rX4_areWithin (F : Nat) (l0A : Nat) (l1I : Int32) (l2I : Int32) (S : wPS) (Φ : (Int32 → wPS → Prop)) : Prop := rX4_areWithin_s F (rX4_areWithin_go F F) l0A l1I l2I S Φ
set_option maxHeartbeats 4000000 in
set_option maxRecDepth 100000 in
theorem tX4_areWithin_go {l : Launch} {X : wkX} {d F : Nat} {S0 : wPS} {Φ : (Int32 → wPS → Prop)} (C : wkC X cX4_areWithin RX4 4 wvX4_areWithin) (hR : wkRm X d 0 0) (hd : 1 ≤ d) (E : wkEnd l X cX4_areWithin 4 (some .boolean) 0 0 (fun v' S'' => ∃ v : Int32, v' = some (.int v) ∧ Φ v S'' ∧ wkWF S'' ∧ wkExt S0 S'')) : ∀ k' : Nat, (∀ (l0A : Nat) (l1I : Int32) (l2I : Int32) (l3I : Int32) (S : wPS), wkWF S → wkExt S0 S → wkIs S l0A 13 → rX4_areWithin_go F k' 0 l0A l1I l2I l3I S Φ → wkGo l X 4 0 0 2 S [some (.ref l0A), some (.int l1I), some (.int l2I), some (.int l3I)] []) := by
  intro k'
  induction k' with
  | zero => exact fun l0A l1I l2I l3I S hW hE hl0A h => h.elim
  | succ k' ih =>
    · intro l0A l1I l2I l3I S hW hE hl0A h
      have h : rX4_areWithin_b0 F (rX4_areWithin_go F k') l0A l1I l2I l3I S Φ := by
        rw [rX4_areWithin_go, if_pos (rfl : (0 : Nat) = 0)] at h
        exact h
      unfold rX4_areWithin_b0 at h
      refine wk_iload_n C dX4_areWithin_2 rfl rfl ?_
      refine wk_iload_n C dX4_areWithin_3 rfl rfl ?_
      refine wk_icmp_ge C (tgt := 33) dX4_areWithin_4 (by decide) (fun c1 => ?_) (fun c1 => ?_)
      · rw [if_pos c1] at h
        refine wk_iconst C (v := 1) dX4_areWithin_33 (by decide) ?_
        exact E _ _ _ _ _ _ (Nat.le_refl 0) (Nat.le_refl 0) dX4_areWithin_34 rfl ⟨(1 : Int32), rfl, h, hW, hE⟩
      · rw [if_neg c1] at h
        refine wk_iload_n C dX4_areWithin_7 rfl rfl ?_
        refine wk_aload_n C dX4_areWithin_8 rfl rfl ?_
        refine wk_ilen C hl0A.1 hl0A.2 rfl dX4_areWithin_9 ?_
        refine wk_icmp_ge C (tgt := 33) dX4_areWithin_10 (by decide) (fun c2 => ?_) (fun c2 => ?_)
        · rw [if_pos c2] at h
          refine wk_iconst C (v := 1) dX4_areWithin_33 (by decide) ?_
          exact E _ _ _ _ _ _ (Nat.le_refl 0) (Nat.le_refl 0) dX4_areWithin_34 rfl ⟨(1 : Int32), rfl, h, hW, hE⟩
        · rw [if_neg c2] at h
          refine wk_aload_n C dX4_areWithin_13 rfl rfl ?_
          refine wk_iload_n C dX4_areWithin_14 rfl rfl ?_
          obtain ⟨i3, h⟩ := h
          refine wk_iald C hl0A.1 hl0A.2 i3 rfl dX4_areWithin_15 ?_
          refine wk_iload_n C dX4_areWithin_16 rfl rfl ?_
          refine wk_ineg C dX4_areWithin_17 rfl ?_
          refine wk_iload_n C dX4_areWithin_18 rfl rfl ?_
          refine wk_callW C hR (As := [.int (S.rI l0A (l3I).toNatClampNeg), .int (-l2I), .int l2I]) (cnt := 3) (tX4_isWithin (l := l) hW  h) rfl (wkGoodW (List.mem_of_getElem? (i := 1) rfl) (List.mem_of_getElem? (i := 2) rfl) (List.mem_of_getElem? (i := 3) rfl) hbX4_areWithin_X4_isWithin gdX4_isWithin) (Nat.le_trans (by decide : 0 + 1 ≤ 1) hd) (by decide) ⟨by decide, by decide, by decide +kernel⟩ rfl rfl (Nat.le_of_ble_eq_true rfl) (Nat.le_refl 0) (Nat.le_refl 0) dX4_areWithin_19 (fun v' S5 hp => ?_)
          obtain ⟨v4, rfl, h, hWS5, hXS5⟩ := hp
          refine wk_if_ne C (tgt := 27) dX4_areWithin_22 (by decide) (fun c9 => ?_) (fun c9 => ?_)
          · rw [if_neg c9] at h
            obtain ⟨x10, ex10, h⟩ := wkLt_some h
            refine wk_iinc C (lv' := [some (.ref l0A), some (.int l1I), some (.int l2I), some (.int x10)]) dX4_areWithin_27 rfl (by rw [ex10]; rfl) (by decide) rfl ?_
            refine wk_goto C (tgt := 2) dX4_areWithin_30 (by decide) ?_
            exact wk_forget (lv' := [some (.ref l0A), some (.int l1I), some (.int l2I), some (.int x10)]) (wkLs.le ⟨rfl, rfl, rfl, rfl, trivial⟩) (ih _ _ _ _ _ hWS5 (wkExt.tr hE hXS5) (hXS5 _ _ hl0A) h)
          · rw [if_pos c9] at h
            refine wk_iconst C (v := 0) dX4_areWithin_25 (by decide) ?_
            exact E _ _ _ _ _ _ (Nat.le_refl 0) (Nat.le_refl 0) dX4_areWithin_26 rfl ⟨(0 : Int32), rfl, h, hWS5, (wkExt.tr hE hXS5)⟩
set_option maxHeartbeats 4000000 in
set_option maxRecDepth 100000 in
theorem tX4_areWithin {l : Launch} {g : wkG} {F : Nat}  {S : wPS} {l0A : Nat} {l1I : Int32} {l2I : Int32} {Φ : (Int32 → wPS → Prop)} (hW : wkWF S) (hl0A : wkIs S l0A 13) (h : rX4_areWithin F l0A l1I l2I S Φ) : wkMet l g yX4_areWithin wvX4_areWithin 1 0 0 [.ref l0A, .int l1I, .int l2I] S (fun v' S'' => ∃ v : Int32, v' = some (.int v) ∧ Φ v S'' ∧ wkWF S'' ∧ wkExt S S'') := by
  refine wkMet_of (ret := (some .boolean)) (by decide) rfl (Nat.le_of_ble_eq_true rfl) (fun X hg C hR E => ?_)
  subst hg
  have hE : wkExt S S := wkExt.rf
  have hd : 1 ≤ 1 := Nat.le_refl _
  show wkGo l X 4 0 0 0 S [some (.ref l0A), some (.int l1I), some (.int l2I), none] []
  have ih := tX4_areWithin_go (F := F) C hR hd E F
  have h : rX4_areWithin_s F (rX4_areWithin_go F F) l0A l1I l2I S Φ := h
  unfold rX4_areWithin_s at h
  refine wk_iconst C (v := 0) dX4_areWithin_0 (by decide) ?_
  refine wk_istore_n C (lv' := [some (.ref l0A), some (.int l1I), some (.int l2I), some (.int (0 : Int32))]) dX4_areWithin_1 rfl (by decide) rfl ?_
  exact wk_forget (lv' := [some (.ref l0A), some (.int l1I), some (.int l2I), some (.int (0 : Int32))]) (wkLs.le ⟨rfl, rfl, rfl, rfl, trivial⟩) (ih _ _ _ _ _ hW hE hl0A h)
def wvX4_areUnlikeNodes : List Cond := .code yX4_areUnlikeNodes cX4_areUnlikeNodes 2 (some .boolean) :: (([.methodLink RX4 198 yX4_isWithin, .static yX4_isWithin, .initialized RX4] : List Cond) ++ (([]) ++ (wvX4_isWithin)))
theorem hbX4_areUnlikeNodes_X4_isWithin : ∀ w ∈ wvX4_isWithin, w ∈ wvX4_areUnlikeNodes := fun w h => List.mem_cons_of_mem _ (List.mem_append_right _ (List.mem_append_right _ h))
theorem gdX4_areUnlikeNodes : ∀ w ∈ wvX4_areUnlikeNodes, wkGd w := wkGdC rfl (wkGdA (wkGdL (by decide +kernel)) (wkGdA (fun _ h => absurd h List.not_mem_nil) gdX4_isWithin))
def rX4_areUnlikeNodes (F : Nat) (l0A : Nat) (l1I : Int32) (S : wPS) (Φ : (Int32 → wPS → Prop)) : Prop :=
  ¬ ((0 : Int32) < 0 ∨ S.len l0A ≤ ((0 : Int32)).toNatClampNeg) ∧ rX4_isWithin F (S.rI l0A ((0 : Int32)).toNatClampNeg) (0 : Int32) l1I S fun v2 S3 => if v2 = 0 then (Φ (0 : Int32) S3) else (¬ ((1 : Int32) < 0 ∨ S3.len l0A ≤ ((1 : Int32)).toNatClampNeg) ∧ rX4_isWithin F (S3.rI l0A ((1 : Int32)).toNatClampNeg) (0 : Int32) l1I S3 fun v9 S10 => if v9 = 0 then (Φ (0 : Int32) S10) else (¬ ((0 : Int32) < 0 ∨ S10.len l0A ≤ ((0 : Int32)).toNatClampNeg) ∧ ¬ ((1 : Int32) < 0 ∨ S10.len l0A ≤ ((1 : Int32)).toNatClampNeg) ∧ if (S10.rI l0A ((0 : Int32)).toNatClampNeg) = (S10.rI l0A ((1 : Int32)).toNatClampNeg) then (Φ (0 : Int32) S10) else (Φ (1 : Int32) S10)))
set_option maxHeartbeats 4000000 in
set_option maxRecDepth 100000 in
theorem tX4_areUnlikeNodes {l : Launch} {g : wkG} {F : Nat}  {S : wPS} {l0A : Nat} {l1I : Int32} {Φ : (Int32 → wPS → Prop)} (hW : wkWF S) (hl0A : wkIs S l0A 13) (h : rX4_areUnlikeNodes F l0A l1I S Φ) : wkMet l g yX4_areUnlikeNodes wvX4_areUnlikeNodes 1 0 0 [.ref l0A, .int l1I] S (fun v' S'' => ∃ v : Int32, v' = some (.int v) ∧ Φ v S'' ∧ wkWF S'' ∧ wkExt S S'') := by
  refine wkMet_of (ret := (some .boolean)) (by decide) rfl (Nat.le_of_ble_eq_true rfl) (fun X hg C hR E => ?_)
  subst hg
  have hE : wkExt S S := wkExt.rf
  have hd : 1 ≤ 1 := Nat.le_refl _
  show wkGo l X 2 0 0 0 S [some (.ref l0A), some (.int l1I)] []
  unfold rX4_areUnlikeNodes at h
  refine wk_aload_n C dX4_areUnlikeNodes_0 rfl rfl ?_
  refine wk_iconst C (v := 0) dX4_areUnlikeNodes_1 (by decide) ?_
  obtain ⟨i1, h⟩ := h
  refine wk_iald C hl0A.1 hl0A.2 i1 rfl dX4_areUnlikeNodes_2 ?_
  refine wk_iconst C (v := 0) dX4_areUnlikeNodes_3 (by decide) ?_
  refine wk_iload_n C dX4_areUnlikeNodes_4 rfl rfl ?_
  refine wk_callW C hR (As := [.int (S.rI l0A ((0 : Int32)).toNatClampNeg), .int (0 : Int32), .int l1I]) (cnt := 3) (tX4_isWithin (l := l) hW  h) rfl (wkGoodW (List.mem_of_getElem? (i := 1) rfl) (List.mem_of_getElem? (i := 2) rfl) (List.mem_of_getElem? (i := 3) rfl) hbX4_areUnlikeNodes_X4_isWithin gdX4_isWithin) (Nat.le_trans (by decide : 0 + 1 ≤ 1) hd) (by decide) ⟨by decide, by decide, by decide +kernel⟩ rfl rfl (Nat.le_of_ble_eq_true rfl) (Nat.le_refl 0) (Nat.le_refl 0) dX4_areUnlikeNodes_5 (fun v' S3 hp => ?_)
  obtain ⟨v2, rfl, h, hWS3, hXS3⟩ := hp
  refine wk_if_eq C (tgt := 35) dX4_areUnlikeNodes_8 (by decide) (fun c7 => ?_) (fun c7 => ?_)
  · rw [if_pos c7] at h
    refine wk_iconst C (v := 0) dX4_areUnlikeNodes_35 (by decide) ?_
    exact E _ _ _ _ _ _ (Nat.le_refl 0) (Nat.le_refl 0) dX4_areUnlikeNodes_36 rfl ⟨(0 : Int32), rfl, h, hWS3, (wkExt.tr hE hXS3)⟩
  · rw [if_neg c7] at h
    refine wk_aload_n C dX4_areUnlikeNodes_11 rfl rfl ?_
    refine wk_iconst C (v := 1) dX4_areUnlikeNodes_12 (by decide) ?_
    obtain ⟨i8, h⟩ := h
    refine wk_iald C (hXS3 _ _ hl0A).1 (hXS3 _ _ hl0A).2 i8 rfl dX4_areUnlikeNodes_13 ?_
    refine wk_iconst C (v := 0) dX4_areUnlikeNodes_14 (by decide) ?_
    refine wk_iload_n C dX4_areUnlikeNodes_15 rfl rfl ?_
    refine wk_callW C hR (As := [.int (S3.rI l0A ((1 : Int32)).toNatClampNeg), .int (0 : Int32), .int l1I]) (cnt := 3) (tX4_isWithin (l := l) hWS3  h) rfl (wkGoodW (List.mem_of_getElem? (i := 1) rfl) (List.mem_of_getElem? (i := 2) rfl) (List.mem_of_getElem? (i := 3) rfl) hbX4_areUnlikeNodes_X4_isWithin gdX4_isWithin) (Nat.le_trans (by decide : 0 + 1 ≤ 1) hd) (by decide) ⟨by decide, by decide, by decide +kernel⟩ rfl rfl (Nat.le_of_ble_eq_true rfl) (Nat.le_refl 0) (Nat.le_refl 0) dX4_areUnlikeNodes_16 (fun v' S10 hp => ?_)
    obtain ⟨v9, rfl, h, hWS10, hXS10⟩ := hp
    refine wk_if_eq C (tgt := 35) dX4_areUnlikeNodes_19 (by decide) (fun c14 => ?_) (fun c14 => ?_)
    · rw [if_pos c14] at h
      refine wk_iconst C (v := 0) dX4_areUnlikeNodes_35 (by decide) ?_
      exact E _ _ _ _ _ _ (Nat.le_refl 0) (Nat.le_refl 0) dX4_areUnlikeNodes_36 rfl ⟨(0 : Int32), rfl, h, hWS10, (wkExt.tr (wkExt.tr hE hXS3) hXS10)⟩
    · rw [if_neg c14] at h
      refine wk_aload_n C dX4_areUnlikeNodes_22 rfl rfl ?_
      refine wk_iconst C (v := 0) dX4_areUnlikeNodes_23 (by decide) ?_
      obtain ⟨i15, h⟩ := h
      refine wk_iald C (hXS10 _ _ (hXS3 _ _ hl0A)).1 (hXS10 _ _ (hXS3 _ _ hl0A)).2 i15 rfl dX4_areUnlikeNodes_24 ?_
      refine wk_aload_n C dX4_areUnlikeNodes_25 rfl rfl ?_
      refine wk_iconst C (v := 1) dX4_areUnlikeNodes_26 (by decide) ?_
      obtain ⟨i16, h⟩ := h
      refine wk_iald C (hXS10 _ _ (hXS3 _ _ hl0A)).1 (hXS10 _ _ (hXS3 _ _ hl0A)).2 i16 rfl dX4_areUnlikeNodes_27 ?_
      refine wk_icmp_eq C (tgt := 35) dX4_areUnlikeNodes_28 (by decide) (fun c17 => ?_) (fun c17 => ?_)
      · rw [if_pos c17] at h
        refine wk_iconst C (v := 0) dX4_areUnlikeNodes_35 (by decide) ?_
        exact E _ _ _ _ _ _ (Nat.le_refl 0) (Nat.le_refl 0) dX4_areUnlikeNodes_36 rfl ⟨(0 : Int32), rfl, h, hWS10, (wkExt.tr (wkExt.tr hE hXS3) hXS10)⟩
      · rw [if_neg c17] at h
        refine wk_iconst C (v := 1) dX4_areUnlikeNodes_31 (by decide) ?_
        refine wk_goto C (tgt := 36) dX4_areUnlikeNodes_32 (by decide) ?_
        exact E _ _ _ _ _ _ (Nat.le_refl 0) (Nat.le_refl 0) dX4_areUnlikeNodes_36 rfl ⟨(1 : Int32), rfl, h, hWS10, (wkExt.tr (wkExt.tr hE hXS3) hXS10)⟩
def wvX4_areWords : List Cond := .code yX4_areWords cX4_areWords 2 (some .boolean) :: (([.methodLink RX4 198 yX4_isWithin, .static yX4_isWithin, .initialized RX4] : List Cond) ++ (([]) ++ (wvX4_isWithin)))
theorem hbX4_areWords_X4_isWithin : ∀ w ∈ wvX4_isWithin, w ∈ wvX4_areWords := fun w h => List.mem_cons_of_mem _ (List.mem_append_right _ (List.mem_append_right _ h))
theorem gdX4_areWords : ∀ w ∈ wvX4_areWords, wkGd w := wkGdC rfl (wkGdA (wkGdL (by decide +kernel)) (wkGdA (fun _ h => absurd h List.not_mem_nil) gdX4_isWithin))
def rX4_areWords (F : Nat) (l0A : Nat) (l1I : Int32) (S : wPS) (Φ : (Int32 → wPS → Prop)) : Prop :=
  ¬ ((0 : Int32) < 0 ∨ S.len l0A ≤ ((0 : Int32)).toNatClampNeg) ∧ rX4_isWithin F (S.rI l0A ((0 : Int32)).toNatClampNeg) (1 : Int32) l1I S fun v2 S3 => if v2 = 0 then (Φ (0 : Int32) S3) else (¬ ((1 : Int32) < 0 ∨ S3.len l0A ≤ ((1 : Int32)).toNatClampNeg) ∧ rX4_isWithin F (S3.rI l0A ((1 : Int32)).toNatClampNeg) (1 : Int32) l1I S3 fun v9 S10 => if v9 = 0 then (Φ (0 : Int32) S10) else (Φ (1 : Int32) S10))
set_option maxHeartbeats 4000000 in
set_option maxRecDepth 100000 in
theorem tX4_areWords {l : Launch} {g : wkG} {F : Nat}  {S : wPS} {l0A : Nat} {l1I : Int32} {Φ : (Int32 → wPS → Prop)} (hW : wkWF S) (hl0A : wkIs S l0A 13) (h : rX4_areWords F l0A l1I S Φ) : wkMet l g yX4_areWords wvX4_areWords 1 0 0 [.ref l0A, .int l1I] S (fun v' S'' => ∃ v : Int32, v' = some (.int v) ∧ Φ v S'' ∧ wkWF S'' ∧ wkExt S S'') := by
  refine wkMet_of (ret := (some .boolean)) (by decide) rfl (Nat.le_of_ble_eq_true rfl) (fun X hg C hR E => ?_)
  subst hg
  have hE : wkExt S S := wkExt.rf
  have hd : 1 ≤ 1 := Nat.le_refl _
  show wkGo l X 2 0 0 0 S [some (.ref l0A), some (.int l1I)] []
  unfold rX4_areWords at h
  refine wk_aload_n C dX4_areWords_0 rfl rfl ?_
  refine wk_iconst C (v := 0) dX4_areWords_1 (by decide) ?_
  obtain ⟨i1, h⟩ := h
  refine wk_iald C hl0A.1 hl0A.2 i1 rfl dX4_areWords_2 ?_
  refine wk_iconst C (v := 1) dX4_areWords_3 (by decide) ?_
  refine wk_iload_n C dX4_areWords_4 rfl rfl ?_
  refine wk_callW C hR (As := [.int (S.rI l0A ((0 : Int32)).toNatClampNeg), .int (1 : Int32), .int l1I]) (cnt := 3) (tX4_isWithin (l := l) hW  h) rfl (wkGoodW (List.mem_of_getElem? (i := 1) rfl) (List.mem_of_getElem? (i := 2) rfl) (List.mem_of_getElem? (i := 3) rfl) hbX4_areWords_X4_isWithin gdX4_isWithin) (Nat.le_trans (by decide : 0 + 1 ≤ 1) hd) (by decide) ⟨by decide, by decide, by decide +kernel⟩ rfl rfl (Nat.le_of_ble_eq_true rfl) (Nat.le_refl 0) (Nat.le_refl 0) dX4_areWords_5 (fun v' S3 hp => ?_)
  obtain ⟨v2, rfl, h, hWS3, hXS3⟩ := hp
  refine wk_if_eq C (tgt := 26) dX4_areWords_8 (by decide) (fun c7 => ?_) (fun c7 => ?_)
  · rw [if_pos c7] at h
    refine wk_iconst C (v := 0) dX4_areWords_26 (by decide) ?_
    exact E _ _ _ _ _ _ (Nat.le_refl 0) (Nat.le_refl 0) dX4_areWords_27 rfl ⟨(0 : Int32), rfl, h, hWS3, (wkExt.tr hE hXS3)⟩
  · rw [if_neg c7] at h
    refine wk_aload_n C dX4_areWords_11 rfl rfl ?_
    refine wk_iconst C (v := 1) dX4_areWords_12 (by decide) ?_
    obtain ⟨i8, h⟩ := h
    refine wk_iald C (hXS3 _ _ hl0A).1 (hXS3 _ _ hl0A).2 i8 rfl dX4_areWords_13 ?_
    refine wk_iconst C (v := 1) dX4_areWords_14 (by decide) ?_
    refine wk_iload_n C dX4_areWords_15 rfl rfl ?_
    refine wk_callW C hR (As := [.int (S3.rI l0A ((1 : Int32)).toNatClampNeg), .int (1 : Int32), .int l1I]) (cnt := 3) (tX4_isWithin (l := l) hWS3  h) rfl (wkGoodW (List.mem_of_getElem? (i := 1) rfl) (List.mem_of_getElem? (i := 2) rfl) (List.mem_of_getElem? (i := 3) rfl) hbX4_areWords_X4_isWithin gdX4_isWithin) (Nat.le_trans (by decide : 0 + 1 ≤ 1) hd) (by decide) ⟨by decide, by decide, by decide +kernel⟩ rfl rfl (Nat.le_of_ble_eq_true rfl) (Nat.le_refl 0) (Nat.le_refl 0) dX4_areWords_16 (fun v' S10 hp => ?_)
    obtain ⟨v9, rfl, h, hWS10, hXS10⟩ := hp
    refine wk_if_eq C (tgt := 26) dX4_areWords_19 (by decide) (fun c14 => ?_) (fun c14 => ?_)
    · rw [if_pos c14] at h
      refine wk_iconst C (v := 0) dX4_areWords_26 (by decide) ?_
      exact E _ _ _ _ _ _ (Nat.le_refl 0) (Nat.le_refl 0) dX4_areWords_27 rfl ⟨(0 : Int32), rfl, h, hWS10, (wkExt.tr (wkExt.tr hE hXS3) hXS10)⟩
    · rw [if_neg c14] at h
      refine wk_iconst C (v := 1) dX4_areWords_22 (by decide) ?_
      refine wk_goto C (tgt := 27) dX4_areWords_23 (by decide) ?_
      exact E _ _ _ _ _ _ (Nat.le_refl 0) (Nat.le_refl 0) dX4_areWords_27 rfl ⟨(1 : Int32), rfl, h, hWS10, (wkExt.tr (wkExt.tr hE hXS3) hXS10)⟩
def wvX4_isGameItem : List Cond := .code yX4_isGameItem cX4_isGameItem 2 (some .boolean) :: (([.methodLink RX4 198 yX4_isWithin, .static yX4_isWithin, .initialized RX4] : List Cond) ++ (([]) ++ (wvX4_isWithin)))
theorem hbX4_isGameItem_X4_isWithin : ∀ w ∈ wvX4_isWithin, w ∈ wvX4_isGameItem := fun w h => List.mem_cons_of_mem _ (List.mem_append_right _ (List.mem_append_right _ h))
theorem gdX4_isGameItem : ∀ w ∈ wvX4_isGameItem, wkGd w := wkGdC rfl (wkGdA (wkGdL (by decide +kernel)) (wkGdA (fun _ h => absurd h List.not_mem_nil) gdX4_isWithin))
def rX4_isGameItem (F : Nat) (l0A : Nat) (l1I : Int32) (S : wPS) (Φ : (Int32 → wPS → Prop)) : Prop :=
  ¬ ((0 : Int32) < 0 ∨ S.len l0A ≤ ((0 : Int32)).toNatClampNeg) ∧ rX4_isWithin F (S.rI l0A ((0 : Int32)).toNatClampNeg) (0 : Int32) (1 : Int32) S fun v2 S3 => if v2 = 0 then (Φ (0 : Int32) S3) else (¬ ((1 : Int32) < 0 ∨ S3.len l0A ≤ ((1 : Int32)).toNatClampNeg) ∧ rX4_isWithin F (S3.rI l0A ((1 : Int32)).toNatClampNeg) (0 : Int32) (5 : Int32) S3 fun v9 S10 => if v9 = 0 then (Φ (0 : Int32) S10) else (¬ ((2 : Int32) < 0 ∨ S10.len l0A ≤ ((2 : Int32)).toNatClampNeg) ∧ rX4_isWithin F (S10.rI l0A ((2 : Int32)).toNatClampNeg) (0 : Int32) l1I S10 fun v16 S17 => if v16 = 0 then (Φ (0 : Int32) S17) else (¬ ((3 : Int32) < 0 ∨ S17.len l0A ≤ ((3 : Int32)).toNatClampNeg) ∧ rX4_isWithin F (S17.rI l0A ((3 : Int32)).toNatClampNeg) (-1 : Int32) l1I S17 fun v23 S24 => if v23 = 0 then (Φ (0 : Int32) S24) else (¬ ((4 : Int32) < 0 ∨ S24.len l0A ≤ ((4 : Int32)).toNatClampNeg) ∧ rX4_isWithin F (S24.rI l0A ((4 : Int32)).toNatClampNeg) (-1 : Int32) l1I S24 fun v30 S31 => if v30 = 0 then (Φ (0 : Int32) S31) else (Φ (1 : Int32) S31)))))
set_option maxHeartbeats 4000000 in
set_option maxRecDepth 100000 in
theorem tX4_isGameItem {l : Launch} {g : wkG} {F : Nat}  {S : wPS} {l0A : Nat} {l1I : Int32} {Φ : (Int32 → wPS → Prop)} (hW : wkWF S) (hl0A : wkIs S l0A 13) (h : rX4_isGameItem F l0A l1I S Φ) : wkMet l g yX4_isGameItem wvX4_isGameItem 1 0 0 [.ref l0A, .int l1I] S (fun v' S'' => ∃ v : Int32, v' = some (.int v) ∧ Φ v S'' ∧ wkWF S'' ∧ wkExt S S'') := by
  refine wkMet_of (ret := (some .boolean)) (by decide) rfl (Nat.le_of_ble_eq_true rfl) (fun X hg C hR E => ?_)
  subst hg
  have hE : wkExt S S := wkExt.rf
  have hd : 1 ≤ 1 := Nat.le_refl _
  show wkGo l X 2 0 0 0 S [some (.ref l0A), some (.int l1I)] []
  unfold rX4_isGameItem at h
  refine wk_aload_n C dX4_isGameItem_0 rfl rfl ?_
  refine wk_iconst C (v := 0) dX4_isGameItem_1 (by decide) ?_
  obtain ⟨i1, h⟩ := h
  refine wk_iald C hl0A.1 hl0A.2 i1 rfl dX4_isGameItem_2 ?_
  refine wk_iconst C (v := 0) dX4_isGameItem_3 (by decide) ?_
  refine wk_iconst C (v := 1) dX4_isGameItem_4 (by decide) ?_
  refine wk_callW C hR (As := [.int (S.rI l0A ((0 : Int32)).toNatClampNeg), .int (0 : Int32), .int (1 : Int32)]) (cnt := 3) (tX4_isWithin (l := l) hW  h) rfl (wkGoodW (List.mem_of_getElem? (i := 1) rfl) (List.mem_of_getElem? (i := 2) rfl) (List.mem_of_getElem? (i := 3) rfl) hbX4_isGameItem_X4_isWithin gdX4_isWithin) (Nat.le_trans (by decide : 0 + 1 ≤ 1) hd) (by decide) ⟨by decide, by decide, by decide +kernel⟩ rfl rfl (Nat.le_of_ble_eq_true rfl) (Nat.le_refl 0) (Nat.le_refl 0) dX4_isGameItem_5 (fun v' S3 hp => ?_)
  obtain ⟨v2, rfl, h, hWS3, hXS3⟩ := hp
  refine wk_if_eq C (tgt := 59) dX4_isGameItem_8 (by decide) (fun c7 => ?_) (fun c7 => ?_)
  · rw [if_pos c7] at h
    refine wk_iconst C (v := 0) dX4_isGameItem_59 (by decide) ?_
    exact E _ _ _ _ _ _ (Nat.le_refl 0) (Nat.le_refl 0) dX4_isGameItem_60 rfl ⟨(0 : Int32), rfl, h, hWS3, (wkExt.tr hE hXS3)⟩
  · rw [if_neg c7] at h
    refine wk_aload_n C dX4_isGameItem_11 rfl rfl ?_
    refine wk_iconst C (v := 1) dX4_isGameItem_12 (by decide) ?_
    obtain ⟨i8, h⟩ := h
    refine wk_iald C (hXS3 _ _ hl0A).1 (hXS3 _ _ hl0A).2 i8 rfl dX4_isGameItem_13 ?_
    refine wk_iconst C (v := 0) dX4_isGameItem_14 (by decide) ?_
    refine wk_iconst C (v := 5) dX4_isGameItem_15 (by decide) ?_
    refine wk_callW C hR (As := [.int (S3.rI l0A ((1 : Int32)).toNatClampNeg), .int (0 : Int32), .int (5 : Int32)]) (cnt := 3) (tX4_isWithin (l := l) hWS3  h) rfl (wkGoodW (List.mem_of_getElem? (i := 1) rfl) (List.mem_of_getElem? (i := 2) rfl) (List.mem_of_getElem? (i := 3) rfl) hbX4_isGameItem_X4_isWithin gdX4_isWithin) (Nat.le_trans (by decide : 0 + 1 ≤ 1) hd) (by decide) ⟨by decide, by decide, by decide +kernel⟩ rfl rfl (Nat.le_of_ble_eq_true rfl) (Nat.le_refl 0) (Nat.le_refl 0) dX4_isGameItem_16 (fun v' S10 hp => ?_)
    obtain ⟨v9, rfl, h, hWS10, hXS10⟩ := hp
    refine wk_if_eq C (tgt := 59) dX4_isGameItem_19 (by decide) (fun c14 => ?_) (fun c14 => ?_)
    · rw [if_pos c14] at h
      refine wk_iconst C (v := 0) dX4_isGameItem_59 (by decide) ?_
      exact E _ _ _ _ _ _ (Nat.le_refl 0) (Nat.le_refl 0) dX4_isGameItem_60 rfl ⟨(0 : Int32), rfl, h, hWS10, (wkExt.tr (wkExt.tr hE hXS3) hXS10)⟩
    · rw [if_neg c14] at h
      refine wk_aload_n C dX4_isGameItem_22 rfl rfl ?_
      refine wk_iconst C (v := 2) dX4_isGameItem_23 (by decide) ?_
      obtain ⟨i15, h⟩ := h
      refine wk_iald C (hXS10 _ _ (hXS3 _ _ hl0A)).1 (hXS10 _ _ (hXS3 _ _ hl0A)).2 i15 rfl dX4_isGameItem_24 ?_
      refine wk_iconst C (v := 0) dX4_isGameItem_25 (by decide) ?_
      refine wk_iload_n C dX4_isGameItem_26 rfl rfl ?_
      refine wk_callW C hR (As := [.int (S10.rI l0A ((2 : Int32)).toNatClampNeg), .int (0 : Int32), .int l1I]) (cnt := 3) (tX4_isWithin (l := l) hWS10  h) rfl (wkGoodW (List.mem_of_getElem? (i := 1) rfl) (List.mem_of_getElem? (i := 2) rfl) (List.mem_of_getElem? (i := 3) rfl) hbX4_isGameItem_X4_isWithin gdX4_isWithin) (Nat.le_trans (by decide : 0 + 1 ≤ 1) hd) (by decide) ⟨by decide, by decide, by decide +kernel⟩ rfl rfl (Nat.le_of_ble_eq_true rfl) (Nat.le_refl 0) (Nat.le_refl 0) dX4_isGameItem_27 (fun v' S17 hp => ?_)
      obtain ⟨v16, rfl, h, hWS17, hXS17⟩ := hp
      refine wk_if_eq C (tgt := 59) dX4_isGameItem_30 (by decide) (fun c21 => ?_) (fun c21 => ?_)
      · rw [if_pos c21] at h
        refine wk_iconst C (v := 0) dX4_isGameItem_59 (by decide) ?_
        exact E _ _ _ _ _ _ (Nat.le_refl 0) (Nat.le_refl 0) dX4_isGameItem_60 rfl ⟨(0 : Int32), rfl, h, hWS17, (wkExt.tr (wkExt.tr (wkExt.tr hE hXS3) hXS10) hXS17)⟩
      · rw [if_neg c21] at h
        refine wk_aload_n C dX4_isGameItem_33 rfl rfl ?_
        refine wk_iconst C (v := 3) dX4_isGameItem_34 (by decide) ?_
        obtain ⟨i22, h⟩ := h
        refine wk_iald C (hXS17 _ _ (hXS10 _ _ (hXS3 _ _ hl0A))).1 (hXS17 _ _ (hXS10 _ _ (hXS3 _ _ hl0A))).2 i22 rfl dX4_isGameItem_35 ?_
        refine wk_iconst C (v := (-1)) dX4_isGameItem_36 (by decide) ?_
        refine wk_iload_n C dX4_isGameItem_37 rfl rfl ?_
        refine wk_callW C hR (As := [.int (S17.rI l0A ((3 : Int32)).toNatClampNeg), .int (-1 : Int32), .int l1I]) (cnt := 3) (tX4_isWithin (l := l) hWS17  h) rfl (wkGoodW (List.mem_of_getElem? (i := 1) rfl) (List.mem_of_getElem? (i := 2) rfl) (List.mem_of_getElem? (i := 3) rfl) hbX4_isGameItem_X4_isWithin gdX4_isWithin) (Nat.le_trans (by decide : 0 + 1 ≤ 1) hd) (by decide) ⟨by decide, by decide, by decide +kernel⟩ rfl rfl (Nat.le_of_ble_eq_true rfl) (Nat.le_refl 0) (Nat.le_refl 0) dX4_isGameItem_38 (fun v' S24 hp => ?_)
        obtain ⟨v23, rfl, h, hWS24, hXS24⟩ := hp
        refine wk_if_eq C (tgt := 59) dX4_isGameItem_41 (by decide) (fun c28 => ?_) (fun c28 => ?_)
        · rw [if_pos c28] at h
          refine wk_iconst C (v := 0) dX4_isGameItem_59 (by decide) ?_
          exact E _ _ _ _ _ _ (Nat.le_refl 0) (Nat.le_refl 0) dX4_isGameItem_60 rfl ⟨(0 : Int32), rfl, h, hWS24, (wkExt.tr (wkExt.tr (wkExt.tr (wkExt.tr hE hXS3) hXS10) hXS17) hXS24)⟩
        · rw [if_neg c28] at h
          refine wk_aload_n C dX4_isGameItem_44 rfl rfl ?_
          refine wk_iconst C (v := 4) dX4_isGameItem_45 (by decide) ?_
          obtain ⟨i29, h⟩ := h
          refine wk_iald C (hXS24 _ _ (hXS17 _ _ (hXS10 _ _ (hXS3 _ _ hl0A)))).1 (hXS24 _ _ (hXS17 _ _ (hXS10 _ _ (hXS3 _ _ hl0A)))).2 i29 rfl dX4_isGameItem_46 ?_
          refine wk_iconst C (v := (-1)) dX4_isGameItem_47 (by decide) ?_
          refine wk_iload_n C dX4_isGameItem_48 rfl rfl ?_
          refine wk_callW C hR (As := [.int (S24.rI l0A ((4 : Int32)).toNatClampNeg), .int (-1 : Int32), .int l1I]) (cnt := 3) (tX4_isWithin (l := l) hWS24  h) rfl (wkGoodW (List.mem_of_getElem? (i := 1) rfl) (List.mem_of_getElem? (i := 2) rfl) (List.mem_of_getElem? (i := 3) rfl) hbX4_isGameItem_X4_isWithin gdX4_isWithin) (Nat.le_trans (by decide : 0 + 1 ≤ 1) hd) (by decide) ⟨by decide, by decide, by decide +kernel⟩ rfl rfl (Nat.le_of_ble_eq_true rfl) (Nat.le_refl 0) (Nat.le_refl 0) dX4_isGameItem_49 (fun v' S31 hp => ?_)
          obtain ⟨v30, rfl, h, hWS31, hXS31⟩ := hp
          refine wk_if_eq C (tgt := 59) dX4_isGameItem_52 (by decide) (fun c35 => ?_) (fun c35 => ?_)
          · rw [if_pos c35] at h
            refine wk_iconst C (v := 0) dX4_isGameItem_59 (by decide) ?_
            exact E _ _ _ _ _ _ (Nat.le_refl 0) (Nat.le_refl 0) dX4_isGameItem_60 rfl ⟨(0 : Int32), rfl, h, hWS31, (wkExt.tr (wkExt.tr (wkExt.tr (wkExt.tr (wkExt.tr hE hXS3) hXS10) hXS17) hXS24) hXS31)⟩
          · rw [if_neg c35] at h
            refine wk_iconst C (v := 1) dX4_isGameItem_55 (by decide) ?_
            refine wk_goto C (tgt := 60) dX4_isGameItem_56 (by decide) ?_
            exact E _ _ _ _ _ _ (Nat.le_refl 0) (Nat.le_refl 0) dX4_isGameItem_60 rfl ⟨(1 : Int32), rfl, h, hWS31, (wkExt.tr (wkExt.tr (wkExt.tr (wkExt.tr (wkExt.tr hE hXS3) hXS10) hXS17) hXS24) hXS31)⟩
