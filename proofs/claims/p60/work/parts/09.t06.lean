def wvX4_isEdgeAgain : List Cond := .code yX4_isEdgeAgain cX4_isEdgeAgain 6 (some .boolean) :: (([.fieldLink RX4 219 "Witnessworks$Entry" "itemCount" "I", .methodLink RX4 222 yX3_at, .instanceMethod yX3_at, .selects RX3 yX3_at yX3_at, .initialized RX3, .fieldLink RX4 75 "Witnessworks$Entry" "kind" "I"] : List Cond) ++ ((wsX30) ++ (wvX3_at)))
theorem huX4_isEdgeAgain_3 : ∀ w ∈ u_ws RX3 TX3 17, w ∈ wvX4_isEdgeAgain := fun w h => List.mem_cons_of_mem _ (List.mem_append_right _ (List.mem_append_left _ h))
theorem hbX4_isEdgeAgain_X3_at : ∀ w ∈ wvX3_at, w ∈ wvX4_isEdgeAgain := fun w h => List.mem_cons_of_mem _ (List.mem_append_right _ (List.mem_append_right _ h))
theorem gdX4_isEdgeAgain : ∀ w ∈ wvX4_isEdgeAgain, wkGd w := wkGdC rfl (wkGdA (wkGdL (by decide +kernel)) (wkGdA gdX3 gdX3_at))
def rX4_isEdgeAgain_b0 (F : Nat) (rec : Nat → Nat → Int32 → Int32 → Int32 → wPS → (Int32 → wPS → Prop) → Prop) (l1A : Nat) (l2I : Int32) (l4I : Int32) (l5I : Int32) (S : wPS) (Φ : (Int32 → wPS → Prop)) : Prop :=
  if (gEntry_itemCount S l1A) ≤ l5I then (Φ (0 : Int32) S) else (if l5I = l2I then (wkLt (l5I + (1 : Int32)) fun x3 => rec 0 l1A l2I l4I x3 S Φ) else (rX3_at F l1A l5I (0 : Int32) S fun v4 S5 => rX3_at F l1A l5I (1 : Int32) S5 fun v9 S10 => if (((1 : Int32) <<< (v4 &&& 31)) ||| ((1 : Int32) <<< (v9 &&& 31))) = l4I then (Φ (1 : Int32) S10) else (wkLt (l5I + (1 : Int32)) fun x15 => rec 0 l1A l2I l4I x15 S10 Φ)))
def rX4_isEdgeAgain_go (F : Nat) : Nat → Nat → Nat → Int32 → Int32 → Int32 → wPS → (Int32 → wPS → Prop) → Prop
  | 0, _, _, _, _, _, _, _ => False
  | k' + 1, lab, l1A, l2I, l4I, l5I, S, Φ => if lab = 0 then rX4_isEdgeAgain_b0 F (rX4_isEdgeAgain_go F k') l1A l2I l4I l5I S Φ else False
def rX4_isEdgeAgain_s (F : Nat) (rec : Nat → Nat → Int32 → Int32 → Int32 → wPS → (Int32 → wPS → Prop) → Prop) (l0A : Nat) (l1A : Nat) (l2I : Int32) (l3A : Nat) (S : wPS) (Φ : (Int32 → wPS → Prop)) : Prop :=
  if (gEntry_kind S l1A) = 0 then (¬ ((0 : Int32) < 0 ∨ S.len l3A ≤ ((0 : Int32)).toNatClampNeg) ∧ ¬ ((1 : Int32) < 0 ∨ S.len l3A ≤ ((1 : Int32)).toNatClampNeg) ∧ wkLt ((((1 : Int32) <<< ((S.rI l3A ((0 : Int32)).toNatClampNeg) &&& 31)) ||| ((1 : Int32) <<< ((S.rI l3A ((1 : Int32)).toNatClampNeg) &&& 31)))) fun x19 => rec 0 l1A l2I x19 (0 : Int32) S Φ) else (if (gEntry_kind S l1A) = (2 : Int32) then (¬ ((0 : Int32) < 0 ∨ S.len l3A ≤ ((0 : Int32)).toNatClampNeg) ∧ ¬ ((1 : Int32) < 0 ∨ S.len l3A ≤ ((1 : Int32)).toNatClampNeg) ∧ wkLt ((((1 : Int32) <<< ((S.rI l3A ((0 : Int32)).toNatClampNeg) &&& 31)) ||| ((1 : Int32) <<< ((S.rI l3A ((1 : Int32)).toNatClampNeg) &&& 31)))) fun x23 => rec 0 l1A l2I x23 (0 : Int32) S Φ) else (Φ (0 : Int32) S))
def rX4_isEdgeAgain (F : Nat) (l0A : Nat) (l1A : Nat) (l2I : Int32) (l3A : Nat) (S : wPS) (Φ : (Int32 → wPS → Prop)) : Prop := rX4_isEdgeAgain_s F (rX4_isEdgeAgain_go F F) l0A l1A l2I l3A S Φ
set_option maxHeartbeats 4000000 in
set_option maxRecDepth 100000 in
theorem tX4_isEdgeAgain_go {l : Launch} {X : wkX} {d F : Nat} {S0 : wPS} {Φ : (Int32 → wPS → Prop)} (C : wkC X cX4_isEdgeAgain RX4 6 wvX4_isEdgeAgain) (hR : wkRm X d 0 0) (hd : 1 ≤ d) (E : wkEnd l X cX4_isEdgeAgain 6 (some .boolean) 0 0 (fun v' S'' => ∃ v : Int32, v' = some (.int v) ∧ Φ v S'' ∧ wkWF S'' ∧ wkExt S0 S'')) : ∀ k' : Nat, (∀ (l1A : Nat) (l2I : Int32) (l4I : Int32) (l5I : Int32) (S : wPS), wkWF S → wkExt S0 S → wkIs S l1A 3 → rX4_isEdgeAgain_go F k' 0 l1A l2I l4I l5I S Φ → wkGo l X 6 0 0 33 S [none, some (.ref l1A), some (.int l2I), none, some (.int l4I), some (.int l5I)] []) := by
  intro k'
  induction k' with
  | zero => exact fun l1A l2I l4I l5I S hW hE hl1A h => h.elim
  | succ k' ih =>
    · intro l1A l2I l4I l5I S hW hE hl1A h
      have h : rX4_isEdgeAgain_b0 F (rX4_isEdgeAgain_go F k') l1A l2I l4I l5I S Φ := by
        rw [rX4_isEdgeAgain_go, if_pos (rfl : (0 : Nat) = 0)] at h
        exact h
      unfold rX4_isEdgeAgain_b0 at h
      refine wk_iload C dX4_isEdgeAgain_33 rfl ?_
      refine wk_aload_n C dX4_isEdgeAgain_35 rfl rfl ?_
      refine wk_get C (v := .int (gEntry_itemCount S l1A)) huX4_isEdgeAgain_3 hl1A.1 (fun cy => wAt_3 cy _ hl1A.2) rfl 6 (by decide) (List.mem_of_getElem? (i := 1) rfl) rfl rfl dX4_isEdgeAgain_36 ?_
      refine wk_icmp_ge C (tgt := 80) dX4_isEdgeAgain_39 (by decide) (fun c1 => ?_) (fun c1 => ?_)
      · rw [if_pos c1] at h
        refine wk_iconst C (v := 0) dX4_isEdgeAgain_80 (by decide) ?_
        exact E _ _ _ _ _ _ (Nat.le_refl 0) (Nat.le_refl 0) dX4_isEdgeAgain_81 rfl ⟨(0 : Int32), rfl, h, hW, hE⟩
      · rw [if_neg c1] at h
        refine wk_iload C dX4_isEdgeAgain_42 rfl ?_
        refine wk_iload_n C dX4_isEdgeAgain_44 rfl rfl ?_
        refine wk_icmp_eq C (tgt := 74) dX4_isEdgeAgain_45 (by decide) (fun c2 => ?_) (fun c2 => ?_)
        · rw [if_pos c2] at h
          obtain ⟨x3, ex3, h⟩ := wkLt_some h
          refine wk_iinc C (lv' := [none, some (.ref l1A), some (.int l2I), none, some (.int l4I), some (.int x3)]) dX4_isEdgeAgain_74 rfl (by rw [ex3]; rfl) (by decide) rfl ?_
          refine wk_goto C (tgt := 33) dX4_isEdgeAgain_77 (by decide) ?_
          exact wk_forget (lv' := [none, some (.ref l1A), some (.int l2I), none, some (.int l4I), some (.int x3)]) (wkLs.le ⟨rfl, rfl, rfl, rfl, trivial⟩) (ih _ _ _ _ _ hW hE hl1A h)
        · rw [if_neg c2] at h
          refine wk_iconst C (v := 1) dX4_isEdgeAgain_48 (by decide) ?_
          refine wk_aload_n C dX4_isEdgeAgain_49 rfl rfl ?_
          refine wk_iload C dX4_isEdgeAgain_50 rfl ?_
          refine wk_iconst C (v := 0) dX4_isEdgeAgain_52 (by decide) ?_
          refine wk_callV C hR (As := [.int l5I, .int (0 : Int32)]) (cnt := 2) (tX3_at (l := l) hW hl1A h) rfl (wkGoodV (List.mem_of_getElem? (i := 2) rfl) (List.mem_of_getElem? (i := 3) rfl) (List.mem_of_getElem? (i := 4) rfl) (List.mem_of_getElem? (i := 5) rfl) hbX4_isEdgeAgain_X3_at gdX3_at) (Nat.le_trans (by decide : 0 + 1 ≤ 1) hd) (by decide) hl1A.1 (fun cy => wAt_3 cy _ hl1A.2) rfl ⟨by decide, by decide, by decide +kernel⟩ rfl rfl (Nat.le_of_ble_eq_true rfl) (Nat.le_refl 0) (Nat.le_refl 0) dX4_isEdgeAgain_53 (fun v' S5 hp => ?_)
          obtain ⟨v4, rfl, h, hWS5, hXS5⟩ := hp
          refine wk_ishl C dX4_isEdgeAgain_56 rfl ?_
          refine wk_iconst C (v := 1) dX4_isEdgeAgain_57 (by decide) ?_
          refine wk_aload_n C dX4_isEdgeAgain_58 rfl rfl ?_
          refine wk_iload C dX4_isEdgeAgain_59 rfl ?_
          refine wk_iconst C (v := 1) dX4_isEdgeAgain_61 (by decide) ?_
          refine wk_callV C hR (As := [.int l5I, .int (1 : Int32)]) (cnt := 2) (tX3_at (l := l) hWS5 (hXS5 _ _ hl1A) h) rfl (wkGoodV (List.mem_of_getElem? (i := 2) rfl) (List.mem_of_getElem? (i := 3) rfl) (List.mem_of_getElem? (i := 4) rfl) (List.mem_of_getElem? (i := 5) rfl) hbX4_isEdgeAgain_X3_at gdX3_at) (Nat.le_trans (by decide : 0 + 1 ≤ 1) hd) (by decide) (hXS5 _ _ hl1A).1 (fun cy => wAt_3 cy _ (hXS5 _ _ hl1A).2) rfl ⟨by decide, by decide, by decide +kernel⟩ rfl rfl (Nat.le_of_ble_eq_true rfl) (Nat.le_refl 0) (Nat.le_refl 0) dX4_isEdgeAgain_62 (fun v' S10 hp => ?_)
          obtain ⟨v9, rfl, h, hWS10, hXS10⟩ := hp
          refine wk_ishl C dX4_isEdgeAgain_65 rfl ?_
          refine wk_ior C dX4_isEdgeAgain_66 rfl ?_
          refine wk_iload C dX4_isEdgeAgain_67 rfl ?_
          refine wk_icmp_ne C (tgt := 74) dX4_isEdgeAgain_69 (by decide) (fun c14 => ?_) (fun c14 => ?_)
          · rw [if_neg c14] at h
            obtain ⟨x15, ex15, h⟩ := wkLt_some h
            refine wk_iinc C (lv' := [none, some (.ref l1A), some (.int l2I), none, some (.int l4I), some (.int x15)]) dX4_isEdgeAgain_74 rfl (by rw [ex15]; rfl) (by decide) rfl ?_
            refine wk_goto C (tgt := 33) dX4_isEdgeAgain_77 (by decide) ?_
            exact wk_forget (lv' := [none, some (.ref l1A), some (.int l2I), none, some (.int l4I), some (.int x15)]) (wkLs.le ⟨rfl, rfl, rfl, rfl, trivial⟩) (ih _ _ _ _ _ hWS10 (wkExt.tr (wkExt.tr hE hXS5) hXS10) (hXS10 _ _ (hXS5 _ _ hl1A)) h)
          · rw [if_pos c14] at h
            refine wk_iconst C (v := 1) dX4_isEdgeAgain_72 (by decide) ?_
            exact E _ _ _ _ _ _ (Nat.le_refl 0) (Nat.le_refl 0) dX4_isEdgeAgain_73 rfl ⟨(1 : Int32), rfl, h, hWS10, (wkExt.tr (wkExt.tr hE hXS5) hXS10)⟩
set_option maxHeartbeats 4000000 in
set_option maxRecDepth 100000 in
theorem tX4_isEdgeAgain {l : Launch} {g : wkG} {F : Nat}  {S : wPS} {l0A : Nat} {l1A : Nat} {l2I : Int32} {l3A : Nat} {Φ : (Int32 → wPS → Prop)} (hW : wkWF S) (hl0A : wkIs S l0A 4) (hl1A : wkIs S l1A 3) (hl3A : wkIs S l3A 13) (h : rX4_isEdgeAgain F l0A l1A l2I l3A S Φ) : wkMet l g yX4_isEdgeAgain wvX4_isEdgeAgain 1 0 0 [.ref l0A, .ref l1A, .int l2I, .ref l3A] S (fun v' S'' => ∃ v : Int32, v' = some (.int v) ∧ Φ v S'' ∧ wkWF S'' ∧ wkExt S S'') := by
  refine wkMet_of (ret := (some .boolean)) (by decide) rfl (Nat.le_of_ble_eq_true rfl) (fun X hg C hR E => ?_)
  subst hg
  have hE : wkExt S S := wkExt.rf
  have hd : 1 ≤ 1 := Nat.le_refl _
  show wkGo l X 6 0 0 0 S [some (.ref l0A), some (.ref l1A), some (.int l2I), some (.ref l3A), none, none] []
  have ih := tX4_isEdgeAgain_go (F := F) C hR hd E F
  have h : rX4_isEdgeAgain_s F (rX4_isEdgeAgain_go F F) l0A l1A l2I l3A S Φ := h
  unfold rX4_isEdgeAgain_s at h
  refine wk_aload_n C dX4_isEdgeAgain_0 rfl rfl ?_
  refine wk_get C (v := .int (gEntry_kind S l1A)) huX4_isEdgeAgain_3 hl1A.1 (fun cy => wAt_3 cy _ hl1A.2) rfl 0 (by decide) (List.mem_of_getElem? (i := 6) rfl) rfl rfl dX4_isEdgeAgain_1 ?_
  refine wk_if_eq C (tgt := 17) dX4_isEdgeAgain_4 (by decide) (fun c16 => ?_) (fun c16 => ?_)
  · rw [if_pos c16] at h
    refine wk_iconst C (v := 1) dX4_isEdgeAgain_17 (by decide) ?_
    refine wk_aload_n C dX4_isEdgeAgain_18 rfl rfl ?_
    refine wk_iconst C (v := 0) dX4_isEdgeAgain_19 (by decide) ?_
    obtain ⟨i17, h⟩ := h
    refine wk_iald C hl3A.1 hl3A.2 i17 rfl dX4_isEdgeAgain_20 ?_
    refine wk_ishl C dX4_isEdgeAgain_21 rfl ?_
    refine wk_iconst C (v := 1) dX4_isEdgeAgain_22 (by decide) ?_
    refine wk_aload_n C dX4_isEdgeAgain_23 rfl rfl ?_
    refine wk_iconst C (v := 1) dX4_isEdgeAgain_24 (by decide) ?_
    obtain ⟨i18, h⟩ := h
    refine wk_iald C hl3A.1 hl3A.2 i18 rfl dX4_isEdgeAgain_25 ?_
    refine wk_ishl C dX4_isEdgeAgain_26 rfl ?_
    refine wk_ior C dX4_isEdgeAgain_27 rfl ?_
    obtain ⟨x19, ex19, h⟩ := wkLt_some h
    refine wk_topi ex19 ?_
    refine wk_istore C (lv' := [some (.ref l0A), some (.ref l1A), some (.int l2I), some (.ref l3A), some (.int x19), none]) dX4_isEdgeAgain_28 (by decide) rfl ?_
    refine wk_iconst C (v := 0) dX4_isEdgeAgain_30 (by decide) ?_
    refine wk_istore C (lv' := [some (.ref l0A), some (.ref l1A), some (.int l2I), some (.ref l3A), some (.int x19), some (.int (0 : Int32))]) dX4_isEdgeAgain_31 (by decide) rfl ?_
    exact wk_forget (lv' := [none, some (.ref l1A), some (.int l2I), none, some (.int x19), some (.int (0 : Int32))]) (wkLs.le ⟨rfl, rfl, rfl, rfl, trivial⟩) (ih _ _ _ _ _ hW hE hl1A h)
  · rw [if_neg c16] at h
    refine wk_aload_n C dX4_isEdgeAgain_7 rfl rfl ?_
    refine wk_get C (v := .int (gEntry_kind S l1A)) huX4_isEdgeAgain_3 hl1A.1 (fun cy => wAt_3 cy _ hl1A.2) rfl 0 (by decide) (List.mem_of_getElem? (i := 6) rfl) rfl rfl dX4_isEdgeAgain_8 ?_
    refine wk_iconst C (v := 2) dX4_isEdgeAgain_11 (by decide) ?_
    refine wk_icmp_eq C (tgt := 17) dX4_isEdgeAgain_12 (by decide) (fun c20 => ?_) (fun c20 => ?_)
    · rw [if_pos c20] at h
      refine wk_iconst C (v := 1) dX4_isEdgeAgain_17 (by decide) ?_
      refine wk_aload_n C dX4_isEdgeAgain_18 rfl rfl ?_
      refine wk_iconst C (v := 0) dX4_isEdgeAgain_19 (by decide) ?_
      obtain ⟨i21, h⟩ := h
      refine wk_iald C hl3A.1 hl3A.2 i21 rfl dX4_isEdgeAgain_20 ?_
      refine wk_ishl C dX4_isEdgeAgain_21 rfl ?_
      refine wk_iconst C (v := 1) dX4_isEdgeAgain_22 (by decide) ?_
      refine wk_aload_n C dX4_isEdgeAgain_23 rfl rfl ?_
      refine wk_iconst C (v := 1) dX4_isEdgeAgain_24 (by decide) ?_
      obtain ⟨i22, h⟩ := h
      refine wk_iald C hl3A.1 hl3A.2 i22 rfl dX4_isEdgeAgain_25 ?_
      refine wk_ishl C dX4_isEdgeAgain_26 rfl ?_
      refine wk_ior C dX4_isEdgeAgain_27 rfl ?_
      obtain ⟨x23, ex23, h⟩ := wkLt_some h
      refine wk_topi ex23 ?_
      refine wk_istore C (lv' := [some (.ref l0A), some (.ref l1A), some (.int l2I), some (.ref l3A), some (.int x23), none]) dX4_isEdgeAgain_28 (by decide) rfl ?_
      refine wk_iconst C (v := 0) dX4_isEdgeAgain_30 (by decide) ?_
      refine wk_istore C (lv' := [some (.ref l0A), some (.ref l1A), some (.int l2I), some (.ref l3A), some (.int x23), some (.int (0 : Int32))]) dX4_isEdgeAgain_31 (by decide) rfl ?_
      exact wk_forget (lv' := [none, some (.ref l1A), some (.int l2I), none, some (.int x23), some (.int (0 : Int32))]) (wkLs.le ⟨rfl, rfl, rfl, rfl, trivial⟩) (ih _ _ _ _ _ hW hE hl1A h)
    · rw [if_neg c20] at h
      refine wk_iconst C (v := 0) dX4_isEdgeAgain_15 (by decide) ?_
      exact E _ _ _ _ _ _ (Nat.le_refl 0) (Nat.le_refl 0) dX4_isEdgeAgain_16 rfl ⟨(0 : Int32), rfl, h, hW, hE⟩
def wvX4_addBalance : List Cond := .code yX4_addBalance cX4_addBalance 7 none :: (([.fieldLink RX4 219 "Witnessworks$Entry" "itemCount" "I", .methodLink RX4 269 yX3_addTo, .instanceMethod yX3_addTo, .selects RX3 yX3_addTo yX3_addTo, .initialized RX3, .methodLink RX4 222 yX3_at, .instanceMethod yX3_at, .selects RX3 yX3_at yX3_at, .methodLink RX4 255 yX3_addItem, .instanceMethod yX3_addItem, .selects RX3 yX3_addItem yX3_addItem] : List Cond) ++ ((wsX30) ++ (wvX3_addTo ++ (wvX3_at ++ (wvX3_addItem)))))
theorem huX4_addBalance_3 : ∀ w ∈ u_ws RX3 TX3 17, w ∈ wvX4_addBalance := fun w h => List.mem_cons_of_mem _ (List.mem_append_right _ (List.mem_append_left _ h))
theorem hbX4_addBalance_X3_addTo : ∀ w ∈ wvX3_addTo, w ∈ wvX4_addBalance := fun w h => List.mem_cons_of_mem _ (List.mem_append_right _ (List.mem_append_right _ (List.mem_append_left _ h)))
theorem hbX4_addBalance_X3_at : ∀ w ∈ wvX3_at, w ∈ wvX4_addBalance := fun w h => List.mem_cons_of_mem _ (List.mem_append_right _ (List.mem_append_right _ (List.mem_append_right _ (List.mem_append_left _ h))))
theorem hbX4_addBalance_X3_addItem : ∀ w ∈ wvX3_addItem, w ∈ wvX4_addBalance := fun w h => List.mem_cons_of_mem _ (List.mem_append_right _ (List.mem_append_right _ (List.mem_append_right _ (List.mem_append_right _ h))))
theorem gdX4_addBalance : ∀ w ∈ wvX4_addBalance, wkGd w := wkGdC rfl (wkGdA (wkGdL (by decide +kernel)) (wkGdA gdX3 (wkGdA gdX3_addTo (wkGdA gdX3_at gdX3_addItem))))
def rX4_addBalance_b0 (F : Nat) (rec : Nat → Nat → Nat → Int32 → Int32 → Int32 → Int32 → Int32 → wPS → (Unit → wPS → Prop) → Prop) (l0A : Nat) (l1A : Nat) (l2I : Int32) (l3I : Int32) (l4I : Int32) (l5I : Int32) (l6I : Int32) (S : wPS) (Φ : (Unit → wPS → Prop)) : Prop :=
  if (gEntry_itemCount S l0A) ≤ l6I then (rX3_addTo F l1A l5I (4 : Int32) l4I S fun v2 S3 => Φ () S3) else (rX3_at F l0A l6I (0 : Int32) S fun v7 S8 => if v7 = l2I then (rX3_addTo F l1A l5I l6I l3I S8 fun v26 S27 => rX3_at F l0A l6I (1 : Int32) S27 fun v31 S32 => if v31 = l2I then (rX3_addTo F l1A l5I l6I (-l3I) S32 fun v38 S39 => wkLt (l6I + (1 : Int32)) fun x43 => rec 0 l0A l1A l2I l3I l4I l5I x43 S39 Φ) else (wkLt (l6I + (1 : Int32)) fun x37 => rec 0 l0A l1A l2I l3I l4I l5I x37 S32 Φ)) else (rX3_at F l0A l6I (1 : Int32) S8 fun v13 S14 => if v13 = l2I then (rX3_addTo F l1A l5I l6I (-l3I) S14 fun v20 S21 => wkLt (l6I + (1 : Int32)) fun x25 => rec 0 l0A l1A l2I l3I l4I l5I x25 S21 Φ) else (wkLt (l6I + (1 : Int32)) fun x19 => rec 0 l0A l1A l2I l3I l4I l5I x19 S14 Φ)))
def rX4_addBalance_go (F : Nat) : Nat → Nat → Nat → Nat → Int32 → Int32 → Int32 → Int32 → Int32 → wPS → (Unit → wPS → Prop) → Prop
  | 0, _, _, _, _, _, _, _, _, _, _ => False
  | k' + 1, lab, l0A, l1A, l2I, l3I, l4I, l5I, l6I, S, Φ => if lab = 0 then rX4_addBalance_b0 F (rX4_addBalance_go F k') l0A l1A l2I l3I l4I l5I l6I S Φ else False
def rX4_addBalance_s (F : Nat) (rec : Nat → Nat → Nat → Int32 → Int32 → Int32 → Int32 → Int32 → wPS → (Unit → wPS → Prop) → Prop) (l0A : Nat) (l1A : Nat) (l2I : Int32) (l3I : Int32) (l4I : Int32) (S : wPS) (Φ : (Unit → wPS → Prop)) : Prop :=
  wkLt ((gEntry_itemCount S l1A)) fun x44 => rX3_addItem F l1A (0 : Int32) (0 : Int32) (0 : Int32) S fun v45 S46 => rec 0 l0A l1A l2I l3I l4I x44 (0 : Int32) S46 Φ
def rX4_addBalance (F : Nat) (l0A : Nat) (l1A : Nat) (l2I : Int32) (l3I : Int32) (l4I : Int32) (S : wPS) (Φ : (Unit → wPS → Prop)) : Prop := rX4_addBalance_s F (rX4_addBalance_go F F) l0A l1A l2I l3I l4I S Φ
set_option maxHeartbeats 4000000 in
set_option maxRecDepth 100000 in
theorem tX4_addBalance_go {l : Launch} {X : wkX} {d F : Nat} {S0 : wPS} {Φ : (Unit → wPS → Prop)} (C : wkC X cX4_addBalance RX4 7 wvX4_addBalance) (hR : wkRm X d 0 0) (hd : 1 ≤ d) (E : wkEnd l X cX4_addBalance 7 none 0 0 (fun v' S'' => ∃ v : Unit, v' = none ∧ Φ v S'' ∧ wkWF S'' ∧ wkExt S0 S'')) : ∀ k' : Nat, (∀ (l0A : Nat) (l1A : Nat) (l2I : Int32) (l3I : Int32) (l4I : Int32) (l5I : Int32) (l6I : Int32) (S : wPS), wkWF S → wkExt S0 S → wkIs S l0A 3 → wkIs S l1A 3 → rX4_addBalance_go F k' 0 l0A l1A l2I l3I l4I l5I l6I S Φ → wkGo l X 7 0 0 16 S [some (.ref l0A), some (.ref l1A), some (.int l2I), some (.int l3I), some (.int l4I), some (.int l5I), some (.int l6I)] []) := by
  intro k'
  induction k' with
  | zero => exact fun l0A l1A l2I l3I l4I l5I l6I S hW hE hl0A hl1A h => h.elim
  | succ k' ih =>
    · intro l0A l1A l2I l3I l4I l5I l6I S hW hE hl0A hl1A h
      have h : rX4_addBalance_b0 F (rX4_addBalance_go F k') l0A l1A l2I l3I l4I l5I l6I S Φ := by
        rw [rX4_addBalance_go, if_pos (rfl : (0 : Nat) = 0)] at h
        exact h
      unfold rX4_addBalance_b0 at h
      refine wk_iload C dX4_addBalance_16 rfl ?_
      refine wk_aload_n C dX4_addBalance_18 rfl rfl ?_
      refine wk_get C (v := .int (gEntry_itemCount S l0A)) huX4_addBalance_3 hl0A.1 (fun cy => wAt_3 cy _ hl0A.2) rfl 6 (by decide) (List.mem_of_getElem? (i := 1) rfl) rfl rfl dX4_addBalance_19 ?_
      refine wk_icmp_ge C (tgt := 72) dX4_addBalance_22 (by decide) (fun c1 => ?_) (fun c1 => ?_)
      · rw [if_pos c1] at h
        refine wk_aload_n C dX4_addBalance_72 rfl rfl ?_
        refine wk_iload C dX4_addBalance_73 rfl ?_
        refine wk_iconst C (v := 4) dX4_addBalance_75 (by decide) ?_
        refine wk_iload C dX4_addBalance_76 rfl ?_
        refine wk_callV C hR (As := [.int l5I, .int (4 : Int32), .int l4I]) (cnt := 3) (tX3_addTo (l := l) hW hl1A h) rfl (wkGoodV (List.mem_of_getElem? (i := 2) rfl) (List.mem_of_getElem? (i := 3) rfl) (List.mem_of_getElem? (i := 4) rfl) (List.mem_of_getElem? (i := 5) rfl) hbX4_addBalance_X3_addTo gdX3_addTo) (Nat.le_trans (by decide : 0 + 1 ≤ 1) hd) (by decide) hl1A.1 (fun cy => wAt_3 cy _ hl1A.2) rfl ⟨by decide, by decide, by decide +kernel⟩ rfl rfl (Nat.le_of_ble_eq_true rfl) (Nat.le_refl 0) (Nat.le_refl 0) dX4_addBalance_78 (fun v' S3 hp => ?_)
        obtain ⟨v2, rfl, h, hWS3, hXS3⟩ := hp
        exact E _ _ _ _ _ (Nat.le_refl 0) (Nat.le_refl 0) dX4_addBalance_81 ⟨(), rfl, h, hWS3, (wkExt.tr hE hXS3)⟩
      · rw [if_neg c1] at h
        refine wk_aload_n C dX4_addBalance_25 rfl rfl ?_
        refine wk_iload C dX4_addBalance_26 rfl ?_
        refine wk_iconst C (v := 0) dX4_addBalance_28 (by decide) ?_
        refine wk_callV C hR (As := [.int l6I, .int (0 : Int32)]) (cnt := 2) (tX3_at (l := l) hW hl0A h) rfl (wkGoodV (List.mem_of_getElem? (i := 6) rfl) (List.mem_of_getElem? (i := 7) rfl) (List.mem_of_getElem? (i := 8) rfl) (List.mem_of_getElem? (i := 5) rfl) hbX4_addBalance_X3_at gdX3_at) (Nat.le_trans (by decide : 0 + 1 ≤ 1) hd) (by decide) hl0A.1 (fun cy => wAt_3 cy _ hl0A.2) rfl ⟨by decide, by decide, by decide +kernel⟩ rfl rfl (Nat.le_of_ble_eq_true rfl) (Nat.le_refl 0) (Nat.le_refl 0) dX4_addBalance_29 (fun v' S8 hp => ?_)
        obtain ⟨v7, rfl, h, hWS8, hXS8⟩ := hp
        refine wk_iload_n C dX4_addBalance_32 rfl rfl ?_
        refine wk_icmp_ne C (tgt := 45) dX4_addBalance_33 (by decide) (fun c12 => ?_) (fun c12 => ?_)
        · rw [if_neg c12] at h
          refine wk_aload_n C dX4_addBalance_45 rfl rfl ?_
          refine wk_iload C dX4_addBalance_46 rfl ?_
          refine wk_iconst C (v := 1) dX4_addBalance_48 (by decide) ?_
          refine wk_callV C hR (As := [.int l6I, .int (1 : Int32)]) (cnt := 2) (tX3_at (l := l) hWS8 (hXS8 _ _ hl0A) h) rfl (wkGoodV (List.mem_of_getElem? (i := 6) rfl) (List.mem_of_getElem? (i := 7) rfl) (List.mem_of_getElem? (i := 8) rfl) (List.mem_of_getElem? (i := 5) rfl) hbX4_addBalance_X3_at gdX3_at) (Nat.le_trans (by decide : 0 + 1 ≤ 1) hd) (by decide) (hXS8 _ _ hl0A).1 (fun cy => wAt_3 cy _ (hXS8 _ _ hl0A).2) rfl ⟨by decide, by decide, by decide +kernel⟩ rfl rfl (Nat.le_of_ble_eq_true rfl) (Nat.le_refl 0) (Nat.le_refl 0) dX4_addBalance_49 (fun v' S14 hp => ?_)
          obtain ⟨v13, rfl, h, hWS14, hXS14⟩ := hp
          refine wk_iload_n C dX4_addBalance_52 rfl rfl ?_
          refine wk_icmp_ne C (tgt := 66) dX4_addBalance_53 (by decide) (fun c18 => ?_) (fun c18 => ?_)
          · rw [if_neg c18] at h
            obtain ⟨x19, ex19, h⟩ := wkLt_some h
            refine wk_iinc C (lv' := [some (.ref l0A), some (.ref l1A), some (.int l2I), some (.int l3I), some (.int l4I), some (.int l5I), some (.int x19)]) dX4_addBalance_66 rfl (by rw [ex19]; rfl) (by decide) rfl ?_
            refine wk_goto C (tgt := 16) dX4_addBalance_69 (by decide) ?_
            exact wk_forget (lv' := [some (.ref l0A), some (.ref l1A), some (.int l2I), some (.int l3I), some (.int l4I), some (.int l5I), some (.int x19)]) (wkLs.le ⟨rfl, rfl, rfl, rfl, rfl, rfl, rfl, trivial⟩) (ih _ _ _ _ _ _ _ _ hWS14 (wkExt.tr (wkExt.tr hE hXS8) hXS14) (hXS14 _ _ (hXS8 _ _ hl0A)) (hXS14 _ _ (hXS8 _ _ hl1A)) h)
          · rw [if_pos c18] at h
            refine wk_aload_n C dX4_addBalance_56 rfl rfl ?_
            refine wk_iload C dX4_addBalance_57 rfl ?_
            refine wk_iload C dX4_addBalance_59 rfl ?_
            refine wk_iload_n C dX4_addBalance_61 rfl rfl ?_
            refine wk_ineg C dX4_addBalance_62 rfl ?_
            refine wk_callV C hR (As := [.int l5I, .int l6I, .int (-l3I)]) (cnt := 3) (tX3_addTo (l := l) hWS14 (hXS14 _ _ (hXS8 _ _ hl1A)) h) rfl (wkGoodV (List.mem_of_getElem? (i := 2) rfl) (List.mem_of_getElem? (i := 3) rfl) (List.mem_of_getElem? (i := 4) rfl) (List.mem_of_getElem? (i := 5) rfl) hbX4_addBalance_X3_addTo gdX3_addTo) (Nat.le_trans (by decide : 0 + 1 ≤ 1) hd) (by decide) (hXS14 _ _ (hXS8 _ _ hl1A)).1 (fun cy => wAt_3 cy _ (hXS14 _ _ (hXS8 _ _ hl1A)).2) rfl ⟨by decide, by decide, by decide +kernel⟩ rfl rfl (Nat.le_of_ble_eq_true rfl) (Nat.le_refl 0) (Nat.le_refl 0) dX4_addBalance_63 (fun v' S21 hp => ?_)
            obtain ⟨v20, rfl, h, hWS21, hXS21⟩ := hp
            obtain ⟨x25, ex25, h⟩ := wkLt_some h
            refine wk_iinc C (lv' := [some (.ref l0A), some (.ref l1A), some (.int l2I), some (.int l3I), some (.int l4I), some (.int l5I), some (.int x25)]) dX4_addBalance_66 rfl (by rw [ex25]; rfl) (by decide) rfl ?_
            refine wk_goto C (tgt := 16) dX4_addBalance_69 (by decide) ?_
            exact wk_forget (lv' := [some (.ref l0A), some (.ref l1A), some (.int l2I), some (.int l3I), some (.int l4I), some (.int l5I), some (.int x25)]) (wkLs.le ⟨rfl, rfl, rfl, rfl, rfl, rfl, rfl, trivial⟩) (ih _ _ _ _ _ _ _ _ hWS21 (wkExt.tr (wkExt.tr (wkExt.tr hE hXS8) hXS14) hXS21) (hXS21 _ _ (hXS14 _ _ (hXS8 _ _ hl0A))) (hXS21 _ _ (hXS14 _ _ (hXS8 _ _ hl1A))) h)
        · rw [if_pos c12] at h
          refine wk_aload_n C dX4_addBalance_36 rfl rfl ?_
          refine wk_iload C dX4_addBalance_37 rfl ?_
          refine wk_iload C dX4_addBalance_39 rfl ?_
          refine wk_iload_n C dX4_addBalance_41 rfl rfl ?_
          refine wk_callV C hR (As := [.int l5I, .int l6I, .int l3I]) (cnt := 3) (tX3_addTo (l := l) hWS8 (hXS8 _ _ hl1A) h) rfl (wkGoodV (List.mem_of_getElem? (i := 2) rfl) (List.mem_of_getElem? (i := 3) rfl) (List.mem_of_getElem? (i := 4) rfl) (List.mem_of_getElem? (i := 5) rfl) hbX4_addBalance_X3_addTo gdX3_addTo) (Nat.le_trans (by decide : 0 + 1 ≤ 1) hd) (by decide) (hXS8 _ _ hl1A).1 (fun cy => wAt_3 cy _ (hXS8 _ _ hl1A).2) rfl ⟨by decide, by decide, by decide +kernel⟩ rfl rfl (Nat.le_of_ble_eq_true rfl) (Nat.le_refl 0) (Nat.le_refl 0) dX4_addBalance_42 (fun v' S27 hp => ?_)
          obtain ⟨v26, rfl, h, hWS27, hXS27⟩ := hp
          refine wk_aload_n C dX4_addBalance_45 rfl rfl ?_
          refine wk_iload C dX4_addBalance_46 rfl ?_
          refine wk_iconst C (v := 1) dX4_addBalance_48 (by decide) ?_
          refine wk_callV C hR (As := [.int l6I, .int (1 : Int32)]) (cnt := 2) (tX3_at (l := l) hWS27 (hXS27 _ _ (hXS8 _ _ hl0A)) h) rfl (wkGoodV (List.mem_of_getElem? (i := 6) rfl) (List.mem_of_getElem? (i := 7) rfl) (List.mem_of_getElem? (i := 8) rfl) (List.mem_of_getElem? (i := 5) rfl) hbX4_addBalance_X3_at gdX3_at) (Nat.le_trans (by decide : 0 + 1 ≤ 1) hd) (by decide) (hXS27 _ _ (hXS8 _ _ hl0A)).1 (fun cy => wAt_3 cy _ (hXS27 _ _ (hXS8 _ _ hl0A)).2) rfl ⟨by decide, by decide, by decide +kernel⟩ rfl rfl (Nat.le_of_ble_eq_true rfl) (Nat.le_refl 0) (Nat.le_refl 0) dX4_addBalance_49 (fun v' S32 hp => ?_)
          obtain ⟨v31, rfl, h, hWS32, hXS32⟩ := hp
          refine wk_iload_n C dX4_addBalance_52 rfl rfl ?_
          refine wk_icmp_ne C (tgt := 66) dX4_addBalance_53 (by decide) (fun c36 => ?_) (fun c36 => ?_)
          · rw [if_neg c36] at h
            obtain ⟨x37, ex37, h⟩ := wkLt_some h
            refine wk_iinc C (lv' := [some (.ref l0A), some (.ref l1A), some (.int l2I), some (.int l3I), some (.int l4I), some (.int l5I), some (.int x37)]) dX4_addBalance_66 rfl (by rw [ex37]; rfl) (by decide) rfl ?_
            refine wk_goto C (tgt := 16) dX4_addBalance_69 (by decide) ?_
            exact wk_forget (lv' := [some (.ref l0A), some (.ref l1A), some (.int l2I), some (.int l3I), some (.int l4I), some (.int l5I), some (.int x37)]) (wkLs.le ⟨rfl, rfl, rfl, rfl, rfl, rfl, rfl, trivial⟩) (ih _ _ _ _ _ _ _ _ hWS32 (wkExt.tr (wkExt.tr (wkExt.tr hE hXS8) hXS27) hXS32) (hXS32 _ _ (hXS27 _ _ (hXS8 _ _ hl0A))) (hXS32 _ _ (hXS27 _ _ (hXS8 _ _ hl1A))) h)
          · rw [if_pos c36] at h
            refine wk_aload_n C dX4_addBalance_56 rfl rfl ?_
            refine wk_iload C dX4_addBalance_57 rfl ?_
            refine wk_iload C dX4_addBalance_59 rfl ?_
            refine wk_iload_n C dX4_addBalance_61 rfl rfl ?_
            refine wk_ineg C dX4_addBalance_62 rfl ?_
            refine wk_callV C hR (As := [.int l5I, .int l6I, .int (-l3I)]) (cnt := 3) (tX3_addTo (l := l) hWS32 (hXS32 _ _ (hXS27 _ _ (hXS8 _ _ hl1A))) h) rfl (wkGoodV (List.mem_of_getElem? (i := 2) rfl) (List.mem_of_getElem? (i := 3) rfl) (List.mem_of_getElem? (i := 4) rfl) (List.mem_of_getElem? (i := 5) rfl) hbX4_addBalance_X3_addTo gdX3_addTo) (Nat.le_trans (by decide : 0 + 1 ≤ 1) hd) (by decide) (hXS32 _ _ (hXS27 _ _ (hXS8 _ _ hl1A))).1 (fun cy => wAt_3 cy _ (hXS32 _ _ (hXS27 _ _ (hXS8 _ _ hl1A))).2) rfl ⟨by decide, by decide, by decide +kernel⟩ rfl rfl (Nat.le_of_ble_eq_true rfl) (Nat.le_refl 0) (Nat.le_refl 0) dX4_addBalance_63 (fun v' S39 hp => ?_)
            obtain ⟨v38, rfl, h, hWS39, hXS39⟩ := hp
            obtain ⟨x43, ex43, h⟩ := wkLt_some h
            refine wk_iinc C (lv' := [some (.ref l0A), some (.ref l1A), some (.int l2I), some (.int l3I), some (.int l4I), some (.int l5I), some (.int x43)]) dX4_addBalance_66 rfl (by rw [ex43]; rfl) (by decide) rfl ?_
            refine wk_goto C (tgt := 16) dX4_addBalance_69 (by decide) ?_
            exact wk_forget (lv' := [some (.ref l0A), some (.ref l1A), some (.int l2I), some (.int l3I), some (.int l4I), some (.int l5I), some (.int x43)]) (wkLs.le ⟨rfl, rfl, rfl, rfl, rfl, rfl, rfl, trivial⟩) (ih _ _ _ _ _ _ _ _ hWS39 (wkExt.tr (wkExt.tr (wkExt.tr (wkExt.tr hE hXS8) hXS27) hXS32) hXS39) (hXS39 _ _ (hXS32 _ _ (hXS27 _ _ (hXS8 _ _ hl0A)))) (hXS39 _ _ (hXS32 _ _ (hXS27 _ _ (hXS8 _ _ hl1A)))) h)
set_option maxHeartbeats 4000000 in
set_option maxRecDepth 100000 in
theorem tX4_addBalance {l : Launch} {g : wkG} {F : Nat}  {S : wPS} {l0A : Nat} {l1A : Nat} {l2I : Int32} {l3I : Int32} {l4I : Int32} {Φ : (Unit → wPS → Prop)} (hW : wkWF S) (hl0A : wkIs S l0A 3) (hl1A : wkIs S l1A 3) (h : rX4_addBalance F l0A l1A l2I l3I l4I S Φ) : wkMet l g yX4_addBalance wvX4_addBalance 1 0 0 [.ref l0A, .ref l1A, .int l2I, .int l3I, .int l4I] S (fun v' S'' => ∃ v : Unit, v' = none ∧ Φ v S'' ∧ wkWF S'' ∧ wkExt S S'') := by
  refine wkMet_of (ret := none) (by decide) rfl (Nat.le_of_ble_eq_true rfl) (fun X hg C hR E => ?_)
  subst hg
  have hE : wkExt S S := wkExt.rf
  have hd : 1 ≤ 1 := Nat.le_refl _
  show wkGo l X 7 0 0 0 S [some (.ref l0A), some (.ref l1A), some (.int l2I), some (.int l3I), some (.int l4I), none, none] []
  have ih := tX4_addBalance_go (F := F) C hR hd E F
  have h : rX4_addBalance_s F (rX4_addBalance_go F F) l0A l1A l2I l3I l4I S Φ := h
  unfold rX4_addBalance_s at h
  refine wk_aload_n C dX4_addBalance_0 rfl rfl ?_
  refine wk_get C (v := .int (gEntry_itemCount S l1A)) huX4_addBalance_3 hl1A.1 (fun cy => wAt_3 cy _ hl1A.2) rfl 6 (by decide) (List.mem_of_getElem? (i := 1) rfl) rfl rfl dX4_addBalance_1 ?_
  obtain ⟨x44, ex44, h⟩ := wkLt_some h
  refine wk_topi ex44 ?_
  refine wk_istore C (lv' := [some (.ref l0A), some (.ref l1A), some (.int l2I), some (.int l3I), some (.int l4I), some (.int x44), none]) dX4_addBalance_4 (by decide) rfl ?_
  refine wk_aload_n C dX4_addBalance_6 rfl rfl ?_
  refine wk_iconst C (v := 0) dX4_addBalance_7 (by decide) ?_
  refine wk_iconst C (v := 0) dX4_addBalance_8 (by decide) ?_
  refine wk_iconst C (v := 0) dX4_addBalance_9 (by decide) ?_
  refine wk_callV C hR (As := [.int (0 : Int32), .int (0 : Int32), .int (0 : Int32)]) (cnt := 3) (tX3_addItem (l := l) hW hl1A h) rfl (wkGoodV (List.mem_of_getElem? (i := 9) rfl) (List.mem_of_getElem? (i := 10) rfl) (List.mem_of_getElem? (i := 11) rfl) (List.mem_of_getElem? (i := 5) rfl) hbX4_addBalance_X3_addItem gdX3_addItem) (Nat.le_trans (by decide : 0 + 1 ≤ 1) hd) (by decide) hl1A.1 (fun cy => wAt_3 cy _ hl1A.2) rfl ⟨by decide, by decide, by decide +kernel⟩ rfl rfl (Nat.le_of_ble_eq_true rfl) (Nat.le_refl 0) (Nat.le_refl 0) dX4_addBalance_10 (fun v' S46 hp => ?_)
  obtain ⟨v45, rfl, h, hWS46, hXS46⟩ := hp
  refine wk_iconst C (v := 0) dX4_addBalance_13 (by decide) ?_
  refine wk_istore C (lv' := [some (.ref l0A), some (.ref l1A), some (.int l2I), some (.int l3I), some (.int l4I), some (.int x44), some (.int (0 : Int32))]) dX4_addBalance_14 (by decide) rfl ?_
  exact wk_forget (lv' := [some (.ref l0A), some (.ref l1A), some (.int l2I), some (.int l3I), some (.int l4I), some (.int x44), some (.int (0 : Int32))]) (wkLs.le ⟨rfl, rfl, rfl, rfl, rfl, rfl, rfl, trivial⟩) (ih _ _ _ _ _ _ _ _ hWS46 (wkExt.tr hE hXS46) (hXS46 _ _ hl0A) (hXS46 _ _ hl1A) h)
