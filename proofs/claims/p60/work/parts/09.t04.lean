def wvX3_countUnlike : List Cond := .code yX3_countUnlike cX3_countUnlike 5 (some .int) :: (([.methodLink RX3 70 yX3_at, .instanceMethod yX3_at, .selects RX3 yX3_at yX3_at, .initialized RX3] : List Cond) ++ (([]) ++ (wvX3_at)))
theorem hbX3_countUnlike_X3_at : ∀ w ∈ wvX3_at, w ∈ wvX3_countUnlike := fun w h => List.mem_cons_of_mem _ (List.mem_append_right _ (List.mem_append_right _ h))
theorem gdX3_countUnlike : ∀ w ∈ wvX3_countUnlike, wkGd w := wkGdC rfl (wkGdA (wkGdL (by decide +kernel)) (wkGdA (fun _ h => absurd h List.not_mem_nil) gdX3_at))
def rX3_countUnlike_b0 (F : Nat) (rec : Nat → Nat → Int32 → Nat → Int32 → Int32 → wPS → (Int32 → wPS → Prop) → Prop) (l0A : Nat) (l1I : Int32) (l2A : Nat) (l3I : Int32) (l4I : Int32) (S : wPS) (Φ : (Int32 → wPS → Prop)) : Prop :=
  if (5 : Int32) ≤ l4I then (Φ l3I S) else (rX3_at F l0A l1I l4I S fun v2 S3 => ¬ (l4I < 0 ∨ S3.len l2A ≤ (l4I).toNatClampNeg) ∧ if v2 = (S3.rI l2A (l4I).toNatClampNeg) then (wkLt (l4I + (1 : Int32)) fun x9 => rec 0 l0A l1I l2A l3I x9 S3 Φ) else (wkLt (l3I + (1 : Int32)) fun x10 => wkLt (l4I + (1 : Int32)) fun x11 => rec 0 l0A l1I l2A x10 x11 S3 Φ))
def rX3_countUnlike_go (F : Nat) : Nat → Nat → Nat → Int32 → Nat → Int32 → Int32 → wPS → (Int32 → wPS → Prop) → Prop
  | 0, _, _, _, _, _, _, _, _ => False
  | k' + 1, lab, l0A, l1I, l2A, l3I, l4I, S, Φ => if lab = 0 then rX3_countUnlike_b0 F (rX3_countUnlike_go F k') l0A l1I l2A l3I l4I S Φ else False
def rX3_countUnlike_s (F : Nat) (rec : Nat → Nat → Int32 → Nat → Int32 → Int32 → wPS → (Int32 → wPS → Prop) → Prop) (l0A : Nat) (l1I : Int32) (l2A : Nat) (S : wPS) (Φ : (Int32 → wPS → Prop)) : Prop :=
  rec 0 l0A l1I l2A (0 : Int32) (0 : Int32) S Φ
def rX3_countUnlike (F : Nat) (l0A : Nat) (l1I : Int32) (l2A : Nat) (S : wPS) (Φ : (Int32 → wPS → Prop)) : Prop := rX3_countUnlike_s F (rX3_countUnlike_go F F) l0A l1I l2A S Φ
set_option maxHeartbeats 4000000 in
set_option maxRecDepth 100000 in
theorem tX3_countUnlike_go {l : Launch} {X : wkX} {d F : Nat} {S0 : wPS} {Φ : (Int32 → wPS → Prop)} (C : wkC X cX3_countUnlike RX3 5 wvX3_countUnlike) (hR : wkRm X d 0 0) (hd : 1 ≤ d) (E : wkEnd l X cX3_countUnlike 5 (some .int) 0 0 (fun v' S'' => ∃ v : Int32, v' = some (.int v) ∧ Φ v S'' ∧ wkWF S'' ∧ wkExt S0 S'')) : ∀ k' : Nat, (∀ (l0A : Nat) (l1I : Int32) (l2A : Nat) (l3I : Int32) (l4I : Int32) (S : wPS), wkWF S → wkExt S0 S → wkIs S l0A 3 → wkIs S l2A 13 → rX3_countUnlike_go F k' 0 l0A l1I l2A l3I l4I S Φ → wkGo l X 5 0 0 5 S [some (.ref l0A), some (.int l1I), some (.ref l2A), some (.int l3I), some (.int l4I)] []) := by
  intro k'
  induction k' with
  | zero => exact fun l0A l1I l2A l3I l4I S hW hE hl0A hl2A h => h.elim
  | succ k' ih =>
    · intro l0A l1I l2A l3I l4I S hW hE hl0A hl2A h
      have h : rX3_countUnlike_b0 F (rX3_countUnlike_go F k') l0A l1I l2A l3I l4I S Φ := by
        rw [rX3_countUnlike_go, if_pos (rfl : (0 : Nat) = 0)] at h
        exact h
      unfold rX3_countUnlike_b0 at h
      refine wk_iload C dX3_countUnlike_5 rfl ?_
      refine wk_iconst C (v := 5) dX3_countUnlike_7 (by decide) ?_
      refine wk_icmp_ge C (tgt := 34) dX3_countUnlike_8 (by decide) (fun c1 => ?_) (fun c1 => ?_)
      · rw [if_pos c1] at h
        refine wk_iload_n C dX3_countUnlike_34 rfl rfl ?_
        exact E _ _ _ _ _ _ (Nat.le_refl 0) (Nat.le_refl 0) dX3_countUnlike_35 ⟨l3I, rfl, h, hW, hE⟩
      · rw [if_neg c1] at h
        refine wk_aload_n C dX3_countUnlike_11 rfl rfl ?_
        refine wk_iload_n C dX3_countUnlike_12 rfl rfl ?_
        refine wk_iload C dX3_countUnlike_13 rfl ?_
        refine wk_callV C hR (As := [.int l1I, .int l4I]) (cnt := 2) (tX3_at (l := l) hW hl0A h) rfl (wkGoodV (List.mem_of_getElem? (i := 1) rfl) (List.mem_of_getElem? (i := 2) rfl) (List.mem_of_getElem? (i := 3) rfl) (List.mem_of_getElem? (i := 4) rfl) hbX3_countUnlike_X3_at gdX3_at) (Nat.le_trans (by decide : 0 + 1 ≤ 1) hd) (by decide) hl0A.1 (fun cy => wAt_3 cy _ hl0A.2) rfl ⟨by decide, by decide, by decide +kernel⟩ rfl rfl (Nat.le_of_ble_eq_true rfl) (Nat.le_refl 0) (Nat.le_refl 0) dX3_countUnlike_15 (fun v' S3 hp => ?_)
        obtain ⟨v2, rfl, h, hWS3, hXS3⟩ := hp
        refine wk_aload_n C dX3_countUnlike_18 rfl rfl ?_
        refine wk_iload C dX3_countUnlike_19 rfl ?_
        obtain ⟨i7, h⟩ := h
        refine wk_iald C (hXS3 _ _ hl2A).1 (hXS3 _ _ hl2A).2 i7 rfl dX3_countUnlike_21 ?_
        refine wk_icmp_eq C (tgt := 28) dX3_countUnlike_22 (by decide) (fun c8 => ?_) (fun c8 => ?_)
        · rw [if_pos c8] at h
          obtain ⟨x9, ex9, h⟩ := wkLt_some h
          refine wk_iinc C (lv' := [some (.ref l0A), some (.int l1I), some (.ref l2A), some (.int l3I), some (.int x9)]) dX3_countUnlike_28 rfl (by rw [ex9]; rfl) (by decide) rfl ?_
          refine wk_goto C (tgt := 5) dX3_countUnlike_31 (by decide) ?_
          exact wk_forget (lv' := [some (.ref l0A), some (.int l1I), some (.ref l2A), some (.int l3I), some (.int x9)]) (wkLs.le ⟨rfl, rfl, rfl, rfl, rfl, trivial⟩) (ih _ _ _ _ _ _ hWS3 (wkExt.tr hE hXS3) (hXS3 _ _ hl0A) (hXS3 _ _ hl2A) h)
        · rw [if_neg c8] at h
          obtain ⟨x10, ex10, h⟩ := wkLt_some h
          refine wk_iinc C (lv' := [some (.ref l0A), some (.int l1I), some (.ref l2A), some (.int x10), some (.int l4I)]) dX3_countUnlike_25 rfl (by rw [ex10]; rfl) (by decide) rfl ?_
          obtain ⟨x11, ex11, h⟩ := wkLt_some h
          refine wk_iinc C (lv' := [some (.ref l0A), some (.int l1I), some (.ref l2A), some (.int x10), some (.int x11)]) dX3_countUnlike_28 rfl (by rw [ex11]; rfl) (by decide) rfl ?_
          refine wk_goto C (tgt := 5) dX3_countUnlike_31 (by decide) ?_
          exact wk_forget (lv' := [some (.ref l0A), some (.int l1I), some (.ref l2A), some (.int x10), some (.int x11)]) (wkLs.le ⟨rfl, rfl, rfl, rfl, rfl, trivial⟩) (ih _ _ _ _ _ _ hWS3 (wkExt.tr hE hXS3) (hXS3 _ _ hl0A) (hXS3 _ _ hl2A) h)
set_option maxHeartbeats 4000000 in
set_option maxRecDepth 100000 in
theorem tX3_countUnlike {l : Launch} {g : wkG} {F : Nat}  {S : wPS} {l0A : Nat} {l1I : Int32} {l2A : Nat} {Φ : (Int32 → wPS → Prop)} (hW : wkWF S) (hl0A : wkIs S l0A 3) (hl2A : wkIs S l2A 13) (h : rX3_countUnlike F l0A l1I l2A S Φ) : wkMet l g yX3_countUnlike wvX3_countUnlike 1 0 0 [.ref l0A, .int l1I, .ref l2A] S (fun v' S'' => ∃ v : Int32, v' = some (.int v) ∧ Φ v S'' ∧ wkWF S'' ∧ wkExt S S'') := by
  refine wkMet_of (ret := (some .int)) (by decide) rfl (Nat.le_of_ble_eq_true rfl) (fun X hg C hR E => ?_)
  subst hg
  have hE : wkExt S S := wkExt.rf
  have hd : 1 ≤ 1 := Nat.le_refl _
  show wkGo l X 5 0 0 0 S [some (.ref l0A), some (.int l1I), some (.ref l2A), none, none] []
  have ih := tX3_countUnlike_go (F := F) C hR hd E F
  have h : rX3_countUnlike_s F (rX3_countUnlike_go F F) l0A l1I l2A S Φ := h
  unfold rX3_countUnlike_s at h
  refine wk_iconst C (v := 0) dX3_countUnlike_0 (by decide) ?_
  refine wk_istore_n C (lv' := [some (.ref l0A), some (.int l1I), some (.ref l2A), some (.int (0 : Int32)), none]) dX3_countUnlike_1 rfl (by decide) rfl ?_
  refine wk_iconst C (v := 0) dX3_countUnlike_2 (by decide) ?_
  refine wk_istore C (lv' := [some (.ref l0A), some (.int l1I), some (.ref l2A), some (.int (0 : Int32)), some (.int (0 : Int32))]) dX3_countUnlike_3 (by decide) rfl ?_
  exact wk_forget (lv' := [some (.ref l0A), some (.int l1I), some (.ref l2A), some (.int (0 : Int32)), some (.int (0 : Int32))]) (wkLs.le ⟨rfl, rfl, rfl, rfl, rfl, trivial⟩) (ih _ _ _ _ _ _ hW hE hl0A hl2A h)
def wvX3_removeItem : List Cond := .code yX3_removeItem cX3_removeItem 4 none :: (([.fieldLink RX3 54 "Witnessworks$Entry" "itemCount" "I", .fieldLink RX3 18 "Witnessworks$Entry" "numbers" "[I", .methodLink RX3 64 arraycopyName, .native arraycopyName, .static arraycopyName, .initialized "java/lang/System"] : List Cond) ++ ((wsX30) ++ ([])))
theorem huX3_removeItem_3 : ∀ w ∈ u_ws RX3 TX3 17, w ∈ wvX3_removeItem := fun w h => List.mem_cons_of_mem _ (List.mem_append_right _ (List.mem_append_left _ h))
theorem gdX3_removeItem : ∀ w ∈ wvX3_removeItem, wkGd w := wkGdC rfl (wkGdA (wkGdL (by decide +kernel)) (wkGdA gdX3 (fun _ h => absurd h List.not_mem_nil)))
def rX3_removeItem (F : Nat) (l0A : Nat) (l1I : Int32) (S : wPS) (Φ : (Unit → wPS → Prop)) : Prop :=
  wkLt ((l1I * (5 : Int32))) fun x1 => wkLt (((((gEntry_itemCount S l0A) - l1I) - (1 : Int32)) * (5 : Int32))) fun x2 => if l1I < 0 then (wkLt (wu_Entry_itemCount S l0A ((gEntry_itemCount S l0A) - (1 : Int32))) fun S4 => Φ () S4) else (if x2 ≤ 0 then (wkLt (wu_Entry_itemCount S l0A ((gEntry_itemCount S l0A) - (1 : Int32))) fun S6 => Φ () S6) else (¬ (x1 + (5 : Int32)) < 0 ∧ ¬ x1 < 0 ∧ ¬ x2 < 0 ∧ ((x1 + (5 : Int32))).toNatClampNeg + (x2).toNatClampNeg ≤ S.len (wkAd (gEntry_numbers S l0A)) ∧ (x1).toNatClampNeg + (x2).toNatClampNeg ≤ S.len (wkAd (gEntry_numbers S l0A)) ∧ wkLt (wuRI S (wkAd (gEntry_numbers S l0A)) (va_cpy (S.rI (wkAd (gEntry_numbers S l0A))) (S.rI (wkAd (gEntry_numbers S l0A))) ((x1 + (5 : Int32))).toNatClampNeg (x1).toNatClampNeg (x2).toNatClampNeg)) fun S8 => wkLt (wu_Entry_itemCount S8 l0A ((gEntry_itemCount S8 l0A) - (1 : Int32))) fun S9 => Φ () S9))
set_option maxHeartbeats 4000000 in
set_option maxRecDepth 100000 in
theorem tX3_removeItem {l : Launch} {g : wkG} {F : Nat}  {S : wPS} {l0A : Nat} {l1I : Int32} {Φ : (Unit → wPS → Prop)} (hW : wkWF S) (hl0A : wkIs S l0A 3) (h : rX3_removeItem F l0A l1I S Φ) : wkMet l g yX3_removeItem wvX3_removeItem 1 0 0 [.ref l0A, .int l1I] S (fun v' S'' => ∃ v : Unit, v' = none ∧ Φ v S'' ∧ wkWF S'' ∧ wkExt S S'') := by
  refine wkMet_of (ret := none) (by decide) rfl (Nat.le_of_ble_eq_true rfl) (fun X hg C hR E => ?_)
  subst hg
  have hE : wkExt S S := wkExt.rf
  have hd : 1 ≤ 1 := Nat.le_refl _
  show wkGo l X 4 0 0 0 S [some (.ref l0A), some (.int l1I), none, none] []
  unfold rX3_removeItem at h
  refine wk_iload_n C dX3_removeItem_0 rfl rfl ?_
  refine wk_iconst C (v := 5) dX3_removeItem_1 (by decide) ?_
  refine wk_imul C dX3_removeItem_2 rfl ?_
  obtain ⟨x1, ex1, h⟩ := wkLt_some h
  refine wk_topi ex1 ?_
  refine wk_istore_n C (lv' := [some (.ref l0A), some (.int l1I), some (.int x1), none]) dX3_removeItem_3 rfl (by decide) rfl ?_
  refine wk_aload_n C dX3_removeItem_4 rfl rfl ?_
  refine wk_get C (v := .int (gEntry_itemCount S l0A)) huX3_removeItem_3 hl0A.1 (fun cy => wAt_3 cy _ hl0A.2) rfl 6 (by decide) (List.mem_of_getElem? (i := 1) rfl) rfl rfl dX3_removeItem_5 ?_
  refine wk_iload_n C dX3_removeItem_8 rfl rfl ?_
  refine wk_isub C dX3_removeItem_9 rfl ?_
  refine wk_iconst C (v := 1) dX3_removeItem_10 (by decide) ?_
  refine wk_isub C dX3_removeItem_11 rfl ?_
  refine wk_iconst C (v := 5) dX3_removeItem_12 (by decide) ?_
  refine wk_imul C dX3_removeItem_13 rfl ?_
  obtain ⟨x2, ex2, h⟩ := wkLt_some h
  refine wk_topi ex2 ?_
  refine wk_istore_n C (lv' := [some (.ref l0A), some (.int l1I), some (.int x1), some (.int x2)]) dX3_removeItem_14 rfl (by decide) rfl ?_
  refine wk_iload_n C dX3_removeItem_15 rfl rfl ?_
  refine wk_if_lt C (tgt := 39) dX3_removeItem_16 (by decide) (fun c3 => ?_) (fun c3 => ?_)
  · rw [if_pos c3] at h
    refine wk_aload_n C dX3_removeItem_39 rfl rfl ?_
    refine wk_dup C dX3_removeItem_40 rfl ?_
    refine wk_get C (v := .int (gEntry_itemCount S l0A)) huX3_removeItem_3 hl0A.1 (fun cy => wAt_3 cy _ hl0A.2) rfl 6 (by decide) (List.mem_of_getElem? (i := 1) rfl) rfl rfl dX3_removeItem_41 ?_
    refine wk_iconst C (v := 1) dX3_removeItem_44 (by decide) ?_
    refine wk_isub C dX3_removeItem_45 rfl ?_
    obtain ⟨S4, eS4, h⟩ := wkLt_some h
    refine wk_put C (S' := S4) huX3_removeItem_3 hl0A.1 (fun cy => wAt_3 cy _ hl0A.2) rfl 6 (by decide) (List.mem_of_getElem? (i := 1) rfl) rfl tyX3_ok nmX3 rfl (ty := .int) rfl rfl rfl (by show 6 < 17; decide) (fun cy b => by rw [eS4]; exact wSt_3_6 cy _ hl0A.2 _ b) (by rw [eS4]) dX3_removeItem_46 ?_
    have hWS4 : wkWF S4 := by rw [eS4]; exact hW
    have hXS4 : wkExt S S4 := by rw [eS4]; exact wkExt.rf
    exact E _ _ _ _ _ (Nat.le_refl 0) (Nat.le_refl 0) dX3_removeItem_49 ⟨(), rfl, h, hWS4, (wkExt.tr hE hXS4)⟩
  · rw [if_neg c3] at h
    refine wk_iload_n C dX3_removeItem_19 rfl rfl ?_
    refine wk_if_le C (tgt := 39) dX3_removeItem_20 (by decide) (fun c5 => ?_) (fun c5 => ?_)
    · rw [if_pos c5] at h
      refine wk_aload_n C dX3_removeItem_39 rfl rfl ?_
      refine wk_dup C dX3_removeItem_40 rfl ?_
      refine wk_get C (v := .int (gEntry_itemCount S l0A)) huX3_removeItem_3 hl0A.1 (fun cy => wAt_3 cy _ hl0A.2) rfl 6 (by decide) (List.mem_of_getElem? (i := 1) rfl) rfl rfl dX3_removeItem_41 ?_
      refine wk_iconst C (v := 1) dX3_removeItem_44 (by decide) ?_
      refine wk_isub C dX3_removeItem_45 rfl ?_
      obtain ⟨S6, eS6, h⟩ := wkLt_some h
      refine wk_put C (S' := S6) huX3_removeItem_3 hl0A.1 (fun cy => wAt_3 cy _ hl0A.2) rfl 6 (by decide) (List.mem_of_getElem? (i := 1) rfl) rfl tyX3_ok nmX3 rfl (ty := .int) rfl rfl rfl (by show 6 < 17; decide) (fun cy b => by rw [eS6]; exact wSt_3_6 cy _ hl0A.2 _ b) (by rw [eS6]) dX3_removeItem_46 ?_
      have hWS6 : wkWF S6 := by rw [eS6]; exact hW
      have hXS6 : wkExt S S6 := by rw [eS6]; exact wkExt.rf
      exact E _ _ _ _ _ (Nat.le_refl 0) (Nat.le_refl 0) dX3_removeItem_49 ⟨(), rfl, h, hWS6, (wkExt.tr hE hXS6)⟩
    · rw [if_neg c5] at h
      refine wk_aload_n C dX3_removeItem_23 rfl rfl ?_
      refine wk_get C huX3_removeItem_3 hl0A.1 (fun cy => wAt_3 cy _ hl0A.2) rfl 7 (by decide) (List.mem_of_getElem? (i := 2) rfl) rfl (congrArg some (congrArg va_rf (wf_Entry_numbers hW hl0A).1)) dX3_removeItem_24 ?_
      refine wk_iload_n C dX3_removeItem_27 rfl rfl ?_
      refine wk_iconst C (v := 5) dX3_removeItem_28 (by decide) ?_
      refine wk_iadd C dX3_removeItem_29 rfl ?_
      refine wk_aload_n C dX3_removeItem_30 rfl rfl ?_
      refine wk_get C huX3_removeItem_3 hl0A.1 (fun cy => wAt_3 cy _ hl0A.2) rfl 7 (by decide) (List.mem_of_getElem? (i := 2) rfl) rfl (congrArg some (congrArg va_rf (wf_Entry_numbers hW hl0A).1)) dX3_removeItem_31 ?_
      refine wk_iload_n C dX3_removeItem_34 rfl rfl ?_
      refine wk_iload_n C dX3_removeItem_35 rfl rfl ?_
      obtain ⟨y7a, y7b, y7c, y7d, y7e, h⟩ := h
      obtain ⟨S8, eS8, h⟩ := wkLt_some h
      refine wk_copyI C hR (List.mem_of_getElem? (i := 3) rfl) (List.mem_of_getElem? (i := 4) rfl) (List.mem_of_getElem? (i := 5) rfl) (List.mem_of_getElem? (i := 6) rfl) (Nat.le_trans (by decide) hd) (wf_Entry_numbers hW hl0A).2.1 (wf_Entry_numbers hW hl0A).2.2 (wf_Entry_numbers hW hl0A).2.1 (wf_Entry_numbers hW hl0A).2.2 y7a y7b y7c y7d y7e (Nat.le_of_ble_eq_true rfl) eS8.symm dX3_removeItem_36 ?_
      have hWS8 : wkWF S8 := by rw [eS8]; exact hW
      have hXS8 : wkExt S S8 := by rw [eS8]; exact wkExt.rf
      refine wk_aload_n C dX3_removeItem_39 rfl rfl ?_
      refine wk_dup C dX3_removeItem_40 rfl ?_
      refine wk_get C (v := .int (gEntry_itemCount S8 l0A)) huX3_removeItem_3 (hXS8 _ _ hl0A).1 (fun cy => wAt_3 cy _ (hXS8 _ _ hl0A).2) rfl 6 (by decide) (List.mem_of_getElem? (i := 1) rfl) rfl rfl dX3_removeItem_41 ?_
      refine wk_iconst C (v := 1) dX3_removeItem_44 (by decide) ?_
      refine wk_isub C dX3_removeItem_45 rfl ?_
      obtain ⟨S9, eS9, h⟩ := wkLt_some h
      refine wk_put C (S' := S9) huX3_removeItem_3 (hXS8 _ _ hl0A).1 (fun cy => wAt_3 cy _ (hXS8 _ _ hl0A).2) rfl 6 (by decide) (List.mem_of_getElem? (i := 1) rfl) rfl tyX3_ok nmX3 rfl (ty := .int) rfl rfl rfl (by show 6 < 17; decide) (fun cy b => by rw [eS9]; exact wSt_3_6 cy _ (hXS8 _ _ hl0A).2 _ b) (by rw [eS9]) dX3_removeItem_46 ?_
      have hWS9 : wkWF S9 := by rw [eS9]; exact hWS8
      have hXS9 : wkExt S8 S9 := by rw [eS9]; exact wkExt.rf
      exact E _ _ _ _ _ (Nat.le_refl 0) (Nat.le_refl 0) dX3_removeItem_49 ⟨(), rfl, h, hWS9, (wkExt.tr (wkExt.tr hE hXS8) hXS9)⟩
def wvX3_isSameQuestion : List Cond := .code yX3_isSameQuestion cX3_isSameQuestion 3 (some .boolean) :: (([.fieldLink RX3 54 "Witnessworks$Entry" "itemCount" "I", .fieldLink RX3 18 "Witnessworks$Entry" "numbers" "[I", .fieldLink RX3 42 "Witnessworks$Entry" "size" "I", .fieldLink RX3 45 "Witnessworks$Entry" "bound" "I", .fieldLink RX3 48 "Witnessworks$Entry" "boundNow" "I"] : List Cond) ++ ((wsX30) ++ ([])))
theorem huX3_isSameQuestion_3 : ∀ w ∈ u_ws RX3 TX3 17, w ∈ wvX3_isSameQuestion := fun w h => List.mem_cons_of_mem _ (List.mem_append_right _ (List.mem_append_left _ h))
theorem gdX3_isSameQuestion : ∀ w ∈ wvX3_isSameQuestion, wkGd w := wkGdC rfl (wkGdA (wkGdL (by decide +kernel)) (wkGdA gdX3 (fun _ h => absurd h List.not_mem_nil)))
def rX3_isSameQuestion_b0 (F : Nat) (rec : Nat → Nat → Nat → Int32 → wPS → (Int32 → wPS → Prop) → Prop) (l0A : Nat) (l1A : Nat) (l2I : Int32) (S : wPS) (Φ : (Int32 → wPS → Prop)) : Prop :=
  if ((gEntry_itemCount S l0A) * (5 : Int32)) ≤ l2I then (Φ (1 : Int32) S) else (if (80 : Int32) ≤ l2I then (Φ (1 : Int32) S) else (¬ (l2I < 0 ∨ S.len (wkAd (gEntry_numbers S l0A)) ≤ (l2I).toNatClampNeg) ∧ ¬ (l2I < 0 ∨ S.len (wkAd (gEntry_numbers S l1A)) ≤ (l2I).toNatClampNeg) ∧ if (S.rI (wkAd (gEntry_numbers S l0A)) (l2I).toNatClampNeg) = (S.rI (wkAd (gEntry_numbers S l1A)) (l2I).toNatClampNeg) then (wkLt (l2I + (1 : Int32)) fun x6 => rec 0 l0A l1A x6 S Φ) else (Φ (0 : Int32) S)))
def rX3_isSameQuestion_go (F : Nat) : Nat → Nat → Nat → Nat → Int32 → wPS → (Int32 → wPS → Prop) → Prop
  | 0, _, _, _, _, _, _ => False
  | k' + 1, lab, l0A, l1A, l2I, S, Φ => if lab = 0 then rX3_isSameQuestion_b0 F (rX3_isSameQuestion_go F k') l0A l1A l2I S Φ else False
def rX3_isSameQuestion_s (F : Nat) (rec : Nat → Nat → Nat → Int32 → wPS → (Int32 → wPS → Prop) → Prop) (l0A : Nat) (l1A : Nat) (S : wPS) (Φ : (Int32 → wPS → Prop)) : Prop :=
  if (gEntry_size S l0A) = (gEntry_size S l1A) then (if (gEntry_bound S l0A) = (gEntry_boundNow S l1A) then (if (gEntry_itemCount S l0A) = (gEntry_itemCount S l1A) then (rec 0 l0A l1A (0 : Int32) S Φ) else (Φ (0 : Int32) S)) else (Φ (0 : Int32) S)) else (Φ (0 : Int32) S)
def rX3_isSameQuestion (F : Nat) (l0A : Nat) (l1A : Nat) (S : wPS) (Φ : (Int32 → wPS → Prop)) : Prop := rX3_isSameQuestion_s F (rX3_isSameQuestion_go F F) l0A l1A S Φ
set_option maxHeartbeats 4000000 in
set_option maxRecDepth 100000 in
theorem tX3_isSameQuestion_go {l : Launch} {X : wkX} {d F : Nat} {S0 : wPS} {Φ : (Int32 → wPS → Prop)} (C : wkC X cX3_isSameQuestion RX3 3 wvX3_isSameQuestion) (hR : wkRm X d 0 0) (hd : 0 ≤ d) (E : wkEnd l X cX3_isSameQuestion 3 (some .boolean) 0 0 (fun v' S'' => ∃ v : Int32, v' = some (.int v) ∧ Φ v S'' ∧ wkWF S'' ∧ wkExt S0 S'')) : ∀ k' : Nat, (∀ (l0A : Nat) (l1A : Nat) (l2I : Int32) (S : wPS), wkWF S → wkExt S0 S → wkIs S l0A 3 → wkIs S l1A 3 → rX3_isSameQuestion_go F k' 0 l0A l1A l2I S Φ → wkGo l X 3 0 0 37 S [some (.ref l0A), some (.ref l1A), some (.int l2I)] []) := by
  intro k'
  induction k' with
  | zero => exact fun l0A l1A l2I S hW hE hl0A hl1A h => h.elim
  | succ k' ih =>
    · intro l0A l1A l2I S hW hE hl0A hl1A h
      have h : rX3_isSameQuestion_b0 F (rX3_isSameQuestion_go F k') l0A l1A l2I S Φ := by
        rw [rX3_isSameQuestion_go, if_pos (rfl : (0 : Nat) = 0)] at h
        exact h
      unfold rX3_isSameQuestion_b0 at h
      refine wk_iload_n C dX3_isSameQuestion_37 rfl rfl ?_
      refine wk_aload_n C dX3_isSameQuestion_38 rfl rfl ?_
      refine wk_get C (v := .int (gEntry_itemCount S l0A)) huX3_isSameQuestion_3 hl0A.1 (fun cy => wAt_3 cy _ hl0A.2) rfl 6 (by decide) (List.mem_of_getElem? (i := 1) rfl) rfl rfl dX3_isSameQuestion_39 ?_
      refine wk_iconst C (v := 5) dX3_isSameQuestion_42 (by decide) ?_
      refine wk_imul C dX3_isSameQuestion_43 rfl ?_
      refine wk_icmp_ge C (tgt := 76) dX3_isSameQuestion_44 (by decide) (fun c1 => ?_) (fun c1 => ?_)
      · rw [if_pos c1] at h
        refine wk_iconst C (v := 1) dX3_isSameQuestion_76 (by decide) ?_
        exact E _ _ _ _ _ _ (Nat.le_refl 0) (Nat.le_refl 0) dX3_isSameQuestion_77 rfl ⟨(1 : Int32), rfl, h, hW, hE⟩
      · rw [if_neg c1] at h
        refine wk_iload_n C dX3_isSameQuestion_47 rfl rfl ?_
        refine wk_bipush C (v := 80) dX3_isSameQuestion_48 (by decide) ?_
        refine wk_icmp_ge C (tgt := 76) dX3_isSameQuestion_50 (by decide) (fun c2 => ?_) (fun c2 => ?_)
        · rw [if_pos c2] at h
          refine wk_iconst C (v := 1) dX3_isSameQuestion_76 (by decide) ?_
          exact E _ _ _ _ _ _ (Nat.le_refl 0) (Nat.le_refl 0) dX3_isSameQuestion_77 rfl ⟨(1 : Int32), rfl, h, hW, hE⟩
        · rw [if_neg c2] at h
          refine wk_aload_n C dX3_isSameQuestion_53 rfl rfl ?_
          refine wk_get C huX3_isSameQuestion_3 hl0A.1 (fun cy => wAt_3 cy _ hl0A.2) rfl 7 (by decide) (List.mem_of_getElem? (i := 2) rfl) rfl (congrArg some (congrArg va_rf (wf_Entry_numbers hW hl0A).1)) dX3_isSameQuestion_54 ?_
          refine wk_iload_n C dX3_isSameQuestion_57 rfl rfl ?_
          obtain ⟨i3, h⟩ := h
          refine wk_iald C (wf_Entry_numbers hW hl0A).2.1 (wf_Entry_numbers hW hl0A).2.2 i3 rfl dX3_isSameQuestion_58 ?_
          refine wk_aload_n C dX3_isSameQuestion_59 rfl rfl ?_
          refine wk_get C huX3_isSameQuestion_3 hl1A.1 (fun cy => wAt_3 cy _ hl1A.2) rfl 7 (by decide) (List.mem_of_getElem? (i := 2) rfl) rfl (congrArg some (congrArg va_rf (wf_Entry_numbers hW hl1A).1)) dX3_isSameQuestion_60 ?_
          refine wk_iload_n C dX3_isSameQuestion_63 rfl rfl ?_
          obtain ⟨i4, h⟩ := h
          refine wk_iald C (wf_Entry_numbers hW hl1A).2.1 (wf_Entry_numbers hW hl1A).2.2 i4 rfl dX3_isSameQuestion_64 ?_
          refine wk_icmp_eq C (tgt := 70) dX3_isSameQuestion_65 (by decide) (fun c5 => ?_) (fun c5 => ?_)
          · rw [if_pos c5] at h
            obtain ⟨x6, ex6, h⟩ := wkLt_some h
            refine wk_iinc C (lv' := [some (.ref l0A), some (.ref l1A), some (.int x6)]) dX3_isSameQuestion_70 rfl (by rw [ex6]; rfl) (by decide) rfl ?_
            refine wk_goto C (tgt := 37) dX3_isSameQuestion_73 (by decide) ?_
            exact wk_forget (lv' := [some (.ref l0A), some (.ref l1A), some (.int x6)]) (wkLs.le ⟨rfl, rfl, rfl, trivial⟩) (ih _ _ _ _ hW hE hl0A hl1A h)
          · rw [if_neg c5] at h
            refine wk_iconst C (v := 0) dX3_isSameQuestion_68 (by decide) ?_
            exact E _ _ _ _ _ _ (Nat.le_refl 0) (Nat.le_refl 0) dX3_isSameQuestion_69 rfl ⟨(0 : Int32), rfl, h, hW, hE⟩
set_option maxHeartbeats 4000000 in
set_option maxRecDepth 100000 in
theorem tX3_isSameQuestion {l : Launch} {g : wkG} {F : Nat}  {S : wPS} {l0A : Nat} {l1A : Nat} {Φ : (Int32 → wPS → Prop)} (hW : wkWF S) (hl0A : wkIs S l0A 3) (hl1A : wkIs S l1A 3) (h : rX3_isSameQuestion F l0A l1A S Φ) : wkMet l g yX3_isSameQuestion wvX3_isSameQuestion 0 0 0 [.ref l0A, .ref l1A] S (fun v' S'' => ∃ v : Int32, v' = some (.int v) ∧ Φ v S'' ∧ wkWF S'' ∧ wkExt S S'') := by
  refine wkMet_of (ret := (some .boolean)) (by decide) rfl (Nat.le_of_ble_eq_true rfl) (fun X hg C hR E => ?_)
  subst hg
  have hE : wkExt S S := wkExt.rf
  have hd : 0 ≤ 0 := Nat.le_refl _
  show wkGo l X 3 0 0 0 S [some (.ref l0A), some (.ref l1A), none] []
  have ih := tX3_isSameQuestion_go (F := F) C hR hd E F
  have h : rX3_isSameQuestion_s F (rX3_isSameQuestion_go F F) l0A l1A S Φ := h
  unfold rX3_isSameQuestion_s at h
  refine wk_aload_n C dX3_isSameQuestion_0 rfl rfl ?_
  refine wk_get C (v := .int (gEntry_size S l0A)) huX3_isSameQuestion_3 hl0A.1 (fun cy => wAt_3 cy _ hl0A.2) rfl 1 (by decide) (List.mem_of_getElem? (i := 3) rfl) rfl rfl dX3_isSameQuestion_1 ?_
  refine wk_aload_n C dX3_isSameQuestion_4 rfl rfl ?_
  refine wk_get C (v := .int (gEntry_size S l1A)) huX3_isSameQuestion_3 hl1A.1 (fun cy => wAt_3 cy _ hl1A.2) rfl 1 (by decide) (List.mem_of_getElem? (i := 3) rfl) rfl rfl dX3_isSameQuestion_5 ?_
  refine wk_icmp_ne C (tgt := 33) dX3_isSameQuestion_8 (by decide) (fun c7 => ?_) (fun c7 => ?_)
  · rw [if_neg c7] at h
    refine wk_iconst C (v := 0) dX3_isSameQuestion_33 (by decide) ?_
    exact E _ _ _ _ _ _ (Nat.le_refl 0) (Nat.le_refl 0) dX3_isSameQuestion_34 rfl ⟨(0 : Int32), rfl, h, hW, hE⟩
  · rw [if_pos c7] at h
    refine wk_aload_n C dX3_isSameQuestion_11 rfl rfl ?_
    refine wk_get C (v := .int (gEntry_bound S l0A)) huX3_isSameQuestion_3 hl0A.1 (fun cy => wAt_3 cy _ hl0A.2) rfl 2 (by decide) (List.mem_of_getElem? (i := 4) rfl) rfl rfl dX3_isSameQuestion_12 ?_
    refine wk_aload_n C dX3_isSameQuestion_15 rfl rfl ?_
    refine wk_get C (v := .int (gEntry_boundNow S l1A)) huX3_isSameQuestion_3 hl1A.1 (fun cy => wAt_3 cy _ hl1A.2) rfl 8 (by decide) (List.mem_of_getElem? (i := 5) rfl) rfl rfl dX3_isSameQuestion_16 ?_
    refine wk_icmp_ne C (tgt := 33) dX3_isSameQuestion_19 (by decide) (fun c8 => ?_) (fun c8 => ?_)
    · rw [if_neg c8] at h
      refine wk_iconst C (v := 0) dX3_isSameQuestion_33 (by decide) ?_
      exact E _ _ _ _ _ _ (Nat.le_refl 0) (Nat.le_refl 0) dX3_isSameQuestion_34 rfl ⟨(0 : Int32), rfl, h, hW, hE⟩
    · rw [if_pos c8] at h
      refine wk_aload_n C dX3_isSameQuestion_22 rfl rfl ?_
      refine wk_get C (v := .int (gEntry_itemCount S l0A)) huX3_isSameQuestion_3 hl0A.1 (fun cy => wAt_3 cy _ hl0A.2) rfl 6 (by decide) (List.mem_of_getElem? (i := 1) rfl) rfl rfl dX3_isSameQuestion_23 ?_
      refine wk_aload_n C dX3_isSameQuestion_26 rfl rfl ?_
      refine wk_get C (v := .int (gEntry_itemCount S l1A)) huX3_isSameQuestion_3 hl1A.1 (fun cy => wAt_3 cy _ hl1A.2) rfl 6 (by decide) (List.mem_of_getElem? (i := 1) rfl) rfl rfl dX3_isSameQuestion_27 ?_
      refine wk_icmp_eq C (tgt := 35) dX3_isSameQuestion_30 (by decide) (fun c9 => ?_) (fun c9 => ?_)
      · rw [if_pos c9] at h
        refine wk_iconst C (v := 0) dX3_isSameQuestion_35 (by decide) ?_
        refine wk_istore_n C (lv' := [some (.ref l0A), some (.ref l1A), some (.int (0 : Int32))]) dX3_isSameQuestion_36 rfl (by decide) rfl ?_
        exact wk_forget (lv' := [some (.ref l0A), some (.ref l1A), some (.int (0 : Int32))]) (wkLs.le ⟨rfl, rfl, rfl, trivial⟩) (ih _ _ _ _ hW hE hl0A hl1A h)
      · rw [if_neg c9] at h
        refine wk_iconst C (v := 0) dX3_isSameQuestion_33 (by decide) ?_
        exact E _ _ _ _ _ _ (Nat.le_refl 0) (Nat.le_refl 0) dX3_isSameQuestion_34 rfl ⟨(0 : Int32), rfl, h, hW, hE⟩
def wvX3_tell : List Cond := .code yX3_tell cX3_tell 3 none :: (([.fieldLink RX3 22 "Witnessworks$Entry" "reply" "C", .fieldLink RX3 84 "Witnessworks$Entry" "told" "I"] : List Cond) ++ ((wsX30) ++ ([])))
theorem huX3_tell_3 : ∀ w ∈ u_ws RX3 TX3 17, w ∈ wvX3_tell := fun w h => List.mem_cons_of_mem _ (List.mem_append_right _ (List.mem_append_left _ h))
theorem gdX3_tell : ∀ w ∈ wvX3_tell, wkGd w := wkGdC rfl (wkGdA (wkGdL (by decide +kernel)) (wkGdA gdX3 (fun _ h => absurd h List.not_mem_nil)))
def rX3_tell (F : Nat) (l0A : Nat) (l1I : Int32) (l2I : Int32) (S : wPS) (Φ : (Unit → wPS → Prop)) : Prop :=
  if l1I = 0 then ((((110 : Int32) : Int32).toUInt32 % 65536).toInt32 = (110 : Int32) ∧ wkLt (wu_Entry_reply S l0A (110 : Int32)) fun S3 => wkLt (wu_Entry_told S3 l0A l2I) fun S4 => Φ () S4) else ((((121 : Int32) : Int32).toUInt32 % 65536).toInt32 = (121 : Int32) ∧ wkLt (wu_Entry_reply S l0A (121 : Int32)) fun S6 => wkLt (wu_Entry_told S6 l0A l2I) fun S7 => Φ () S7)
set_option maxHeartbeats 4000000 in
set_option maxRecDepth 100000 in
theorem tX3_tell {l : Launch} {g : wkG} {F : Nat}  {S : wPS} {l0A : Nat} {l1I : Int32} {l2I : Int32} {Φ : (Unit → wPS → Prop)} (hW : wkWF S) (hl0A : wkIs S l0A 3) (h : rX3_tell F l0A l1I l2I S Φ) : wkMet l g yX3_tell wvX3_tell 0 0 0 [.ref l0A, .int l1I, .int l2I] S (fun v' S'' => ∃ v : Unit, v' = none ∧ Φ v S'' ∧ wkWF S'' ∧ wkExt S S'') := by
  refine wkMet_of (ret := none) (by decide) rfl (Nat.le_of_ble_eq_true rfl) (fun X hg C hR E => ?_)
  subst hg
  have hE : wkExt S S := wkExt.rf
  have hd : 0 ≤ 0 := Nat.le_refl _
  show wkGo l X 3 0 0 0 S [some (.ref l0A), some (.int l1I), some (.int l2I)] []
  unfold rX3_tell at h
  refine wk_aload_n C dX3_tell_0 rfl rfl ?_
  refine wk_iload_n C dX3_tell_1 rfl rfl ?_
  refine wk_if_eq C (tgt := 10) dX3_tell_2 (by decide) (fun c1 => ?_) (fun c1 => ?_)
  · rw [if_pos c1] at h
    refine wk_bipush C (v := 110) dX3_tell_10 (by decide) ?_
    obtain ⟨b2, h⟩ := h
    obtain ⟨S3, eS3, h⟩ := wkLt_some h
    refine wk_put C (S' := S3) huX3_tell_3 hl0A.1 (fun cy => wAt_3 cy _ hl0A.2) rfl 11 (by decide) (List.mem_of_getElem? (i := 1) rfl) rfl tyX3_ok nmX3 rfl (ty := .char) rfl (wkNarC b2) (wkFitC b2) (by show 11 < 17; decide) (fun cy b => by rw [eS3]; exact wSt_3_11 cy _ hl0A.2 _ b) (by rw [eS3]) dX3_tell_12 ?_
    have hWS3 : wkWF S3 := by rw [eS3]; exact hW
    have hXS3 : wkExt S S3 := by rw [eS3]; exact wkExt.rf
    refine wk_aload_n C dX3_tell_15 rfl rfl ?_
    refine wk_iload_n C dX3_tell_16 rfl rfl ?_
    obtain ⟨S4, eS4, h⟩ := wkLt_some h
    refine wk_put C (S' := S4) huX3_tell_3 (hXS3 _ _ hl0A).1 (fun cy => wAt_3 cy _ (hXS3 _ _ hl0A).2) rfl 12 (by decide) (List.mem_of_getElem? (i := 2) rfl) rfl tyX3_ok nmX3 rfl (ty := .int) rfl rfl rfl (by show 12 < 17; decide) (fun cy b => by rw [eS4]; exact wSt_3_12 cy _ (hXS3 _ _ hl0A).2 _ b) (by rw [eS4]) dX3_tell_17 ?_
    have hWS4 : wkWF S4 := by rw [eS4]; exact hWS3
    have hXS4 : wkExt S3 S4 := by rw [eS4]; exact wkExt.rf
    exact E _ _ _ _ _ (Nat.le_refl 0) (Nat.le_refl 0) dX3_tell_20 ⟨(), rfl, h, hWS4, (wkExt.tr (wkExt.tr hE hXS3) hXS4)⟩
  · rw [if_neg c1] at h
    refine wk_bipush C (v := 121) dX3_tell_5 (by decide) ?_
    refine wk_goto C (tgt := 12) dX3_tell_7 (by decide) ?_
    obtain ⟨b5, h⟩ := h
    obtain ⟨S6, eS6, h⟩ := wkLt_some h
    refine wk_put C (S' := S6) huX3_tell_3 hl0A.1 (fun cy => wAt_3 cy _ hl0A.2) rfl 11 (by decide) (List.mem_of_getElem? (i := 1) rfl) rfl tyX3_ok nmX3 rfl (ty := .char) rfl (wkNarC b5) (wkFitC b5) (by show 11 < 17; decide) (fun cy b => by rw [eS6]; exact wSt_3_11 cy _ hl0A.2 _ b) (by rw [eS6]) dX3_tell_12 ?_
    have hWS6 : wkWF S6 := by rw [eS6]; exact hW
    have hXS6 : wkExt S S6 := by rw [eS6]; exact wkExt.rf
    refine wk_aload_n C dX3_tell_15 rfl rfl ?_
    refine wk_iload_n C dX3_tell_16 rfl rfl ?_
    obtain ⟨S7, eS7, h⟩ := wkLt_some h
    refine wk_put C (S' := S7) huX3_tell_3 (hXS6 _ _ hl0A).1 (fun cy => wAt_3 cy _ (hXS6 _ _ hl0A).2) rfl 12 (by decide) (List.mem_of_getElem? (i := 2) rfl) rfl tyX3_ok nmX3 rfl (ty := .int) rfl rfl rfl (by show 12 < 17; decide) (fun cy b => by rw [eS7]; exact wSt_3_12 cy _ (hXS6 _ _ hl0A).2 _ b) (by rw [eS7]) dX3_tell_17 ?_
    have hWS7 : wkWF S7 := by rw [eS7]; exact hWS6
    have hXS7 : wkExt S6 S7 := by rw [eS7]; exact wkExt.rf
    exact E _ _ _ _ _ (Nat.le_refl 0) (Nat.le_refl 0) dX3_tell_20 ⟨(), rfl, h, hWS7, (wkExt.tr (wkExt.tr hE hXS6) hXS7)⟩
