def wvX8_judgeUnknowns : List Cond := .code yX8_judgeUnknowns cX8_judgeUnknowns 7 (some .int) :: (([.fieldLink RX8 71 "Witnessworks$Entry" "itemCount" "I", .fieldLink RX8 46 "Witnessworks$Entry" "size" "I", .methodLink RX8 93 yX8_rightSide, .static yX8_rightSide, .initialized RX8, .methodLink RX8 77 yX3_at, .instanceMethod yX3_at, .selects RX3 yX3_at yX3_at, .initialized RX3, .methodLink RX8 67 yX9_at, .instanceMethod yX9_at, .selects RX9 yX9_at yX9_at, .initialized RX9, .fieldLink RX8 135 "Witnessworks$Row" "count" "I"] : List Cond) ++ ((wsX30 ++ (wsX90)) ++ (wvX8_rightSide ++ (wvX3_at ++ (wvX9_at)))))
theorem huX8_judgeUnknowns_3 : ∀ w ∈ u_ws RX3 TX3 17, w ∈ wvX8_judgeUnknowns := fun w h => List.mem_cons_of_mem _ (List.mem_append_right _ (List.mem_append_left _ (List.mem_append_left _ h)))
theorem huX8_judgeUnknowns_9 : ∀ w ∈ u_ws RX9 TX9 2, w ∈ wvX8_judgeUnknowns := fun w h => List.mem_cons_of_mem _ (List.mem_append_right _ (List.mem_append_left _ (List.mem_append_right _ h)))
theorem hbX8_judgeUnknowns_X8_rightSide : ∀ w ∈ wvX8_rightSide, w ∈ wvX8_judgeUnknowns := fun w h => List.mem_cons_of_mem _ (List.mem_append_right _ (List.mem_append_right _ (List.mem_append_left _ h)))
theorem hbX8_judgeUnknowns_X3_at : ∀ w ∈ wvX3_at, w ∈ wvX8_judgeUnknowns := fun w h => List.mem_cons_of_mem _ (List.mem_append_right _ (List.mem_append_right _ (List.mem_append_right _ (List.mem_append_left _ h))))
theorem hbX8_judgeUnknowns_X9_at : ∀ w ∈ wvX9_at, w ∈ wvX8_judgeUnknowns := fun w h => List.mem_cons_of_mem _ (List.mem_append_right _ (List.mem_append_right _ (List.mem_append_right _ (List.mem_append_right _ h))))
theorem gdX8_judgeUnknowns : ∀ w ∈ wvX8_judgeUnknowns, wkGd w := wkGdC rfl (wkGdA (wkGdL (by decide +kernel)) (wkGdA (wkGdA gdX3 gdX9) (wkGdA gdX8_rightSide (wkGdA gdX3_at gdX9_at))))
def rX8_judgeUnknowns_b0 (F : Nat) (rec : Nat → Nat → Nat → Int32 → Int64 → Int32 → wPS → (Int32 → wPS → Prop) → Prop) (l1A : Nat) (l2A : Nat) (l3I : Int32) (S : wPS) (Φ : (Int32 → wPS → Prop)) : Prop :=
  if (gEntry_itemCount S l1A) ≤ l3I then (Φ (0 : Int32) S) else (rec 1 l1A l2A l3I (0 : Int64) (0 : Int32) S Φ)
def rX8_judgeUnknowns_b1 (F : Nat) (rec : Nat → Nat → Nat → Int32 → Int64 → Int32 → wPS → (Int32 → wPS → Prop) → Prop) (l1A : Nat) (l2A : Nat) (l3I : Int32) (l4J : Int64) (l6I : Int32) (S : wPS) (Φ : (Int32 → wPS → Prop)) : Prop :=
  if (gEntry_size S l1A) ≤ l6I then (rX8_rightSide F l1A l3I S fun v3 S4 => if (lg_cmp l4J (Int32.toInt64 v3)) = 0 then (wkLt (l3I + (1 : Int32)) fun x9 => rec 0 l1A l2A x9 0 0 S4 Φ) else (Φ (2 : Int32) S4)) else (rX3_at F l1A l3I l6I S fun v10 S11 => rX9_at F l2A l6I S11 fun v15 S16 => wkLt ((l4J + ((Int32.toInt64 v10) * (Int32.toInt64 v15)))) fun x20 => wkLt (l6I + (1 : Int32)) fun x21 => rec 1 l1A l2A l3I x20 x21 S16 Φ)
def rX8_judgeUnknowns_go (F : Nat) : Nat → Nat → Nat → Nat → Int32 → Int64 → Int32 → wPS → (Int32 → wPS → Prop) → Prop
  | 0, _, _, _, _, _, _, _, _ => False
  | k' + 1, lab, l1A, l2A, l3I, l4J, l6I, S, Φ => if lab = 0 then rX8_judgeUnknowns_b0 F (rX8_judgeUnknowns_go F k') l1A l2A l3I S Φ else if lab = 1 then rX8_judgeUnknowns_b1 F (rX8_judgeUnknowns_go F k') l1A l2A l3I l4J l6I S Φ else False
def rX8_judgeUnknowns_s (F : Nat) (rec : Nat → Nat → Nat → Int32 → Int64 → Int32 → wPS → (Int32 → wPS → Prop) → Prop) (l0A : Nat) (l1A : Nat) (l2A : Nat) (S : wPS) (Φ : (Int32 → wPS → Prop)) : Prop :=
  if (gRow_count S l2A) = (gEntry_size S l1A) then (rec 0 l1A l2A (0 : Int32) 0 0 S Φ) else (Φ (1 : Int32) S)
def rX8_judgeUnknowns (F : Nat) (l0A : Nat) (l1A : Nat) (l2A : Nat) (S : wPS) (Φ : (Int32 → wPS → Prop)) : Prop := rX8_judgeUnknowns_s F (rX8_judgeUnknowns_go F F) l0A l1A l2A S Φ
set_option maxHeartbeats 4000000 in
set_option maxRecDepth 100000 in
theorem tX8_judgeUnknowns_go {l : Launch} {X : wkX} {d F : Nat} {S0 : wPS} {Φ : (Int32 → wPS → Prop)} (C : wkC X cX8_judgeUnknowns RX8 7 wvX8_judgeUnknowns) (hR : wkRm X d 0 0) (hd : 2 ≤ d) (E : wkEnd l X cX8_judgeUnknowns 7 (some .int) 0 0 (fun v' S'' => ∃ v : Int32, v' = some (.int v) ∧ Φ v S'' ∧ wkWF S'' ∧ wkExt S0 S'')) : ∀ k' : Nat, (∀ (l1A : Nat) (l2A : Nat) (l3I : Int32) (S : wPS), wkWF S → wkExt S0 S → wkIs S l1A 3 → wkIs S l2A 9 → rX8_judgeUnknowns_go F k' 0 l1A l2A l3I 0 0 S Φ → wkGo l X 7 0 0 15 S [none, some (.ref l1A), some (.ref l2A), some (.int l3I), none, none, none] []) ∧ (∀ (l1A : Nat) (l2A : Nat) (l3I : Int32) (l4J : Int64) (l6I : Int32) (S : wPS), wkWF S → wkExt S0 S → wkIs S l1A 3 → wkIs S l2A 9 → rX8_judgeUnknowns_go F k' 1 l1A l2A l3I l4J l6I S Φ → wkGo l X 7 0 0 29 S [none, some (.ref l1A), some (.ref l2A), some (.int l3I), some (.long l4J), none, some (.int l6I)] []) := by
  intro k'
  induction k' with
  | zero => exact ⟨fun l1A l2A l3I S hW hE hl1A hl2A h => h.elim, fun l1A l2A l3I l4J l6I S hW hE hl1A hl2A h => h.elim⟩
  | succ k' ih =>
    refine ⟨?_, ?_⟩
    · intro l1A l2A l3I S hW hE hl1A hl2A h
      have h : rX8_judgeUnknowns_b0 F (rX8_judgeUnknowns_go F k') l1A l2A l3I S Φ := by
        rw [rX8_judgeUnknowns_go, if_pos (rfl : (0 : Nat) = 0)] at h
        exact h
      unfold rX8_judgeUnknowns_b0 at h
      refine wk_iload_n C dX8_judgeUnknowns_15 rfl rfl ?_
      refine wk_aload_n C dX8_judgeUnknowns_16 rfl rfl ?_
      refine wk_get C (v := .int (gEntry_itemCount S l1A)) huX8_judgeUnknowns_3 hl1A.1 (fun cy => wAt_3 cy _ hl1A.2) rfl 6 (by decide) (List.mem_of_getElem? (i := 1) rfl) rfl rfl dX8_judgeUnknowns_17 ?_
      refine wk_icmp_ge C (tgt := 85) dX8_judgeUnknowns_20 (by decide) (fun c1 => ?_) (fun c1 => ?_)
      · rw [if_pos c1] at h
        refine wk_iconst C (v := 0) dX8_judgeUnknowns_85 (by decide) ?_
        exact E _ _ _ _ _ _ (Nat.le_refl 0) (Nat.le_refl 0) dX8_judgeUnknowns_86 ⟨(0 : Int32), rfl, h, hW, hE⟩
      · rw [if_neg c1] at h
        refine wk_lconst C (v := 0) dX8_judgeUnknowns_23 (by decide) ?_
        refine wk_lstore C (lv' := [none, some (.ref l1A), some (.ref l2A), some (.int l3I), some (.long (0 : Int64)), none, none]) dX8_judgeUnknowns_24 (by decide) rfl ?_
        refine wk_iconst C (v := 0) dX8_judgeUnknowns_26 (by decide) ?_
        refine wk_istore C (lv' := [none, some (.ref l1A), some (.ref l2A), some (.int l3I), some (.long (0 : Int64)), none, some (.int (0 : Int32))]) dX8_judgeUnknowns_27 (by decide) rfl ?_
        exact wk_forget (lv' := [none, some (.ref l1A), some (.ref l2A), some (.int l3I), some (.long (0 : Int64)), none, some (.int (0 : Int32))]) (wkLs.le ⟨rfl, rfl, rfl, rfl, rfl, trivial⟩) (ih.2 _ _ _ _ _ _ hW hE hl1A hl2A h)
    · intro l1A l2A l3I l4J l6I S hW hE hl1A hl2A h
      have h : rX8_judgeUnknowns_b1 F (rX8_judgeUnknowns_go F k') l1A l2A l3I l4J l6I S Φ := by
        rw [rX8_judgeUnknowns_go, if_neg (show ¬ (1 : Nat) = 0 by decide), if_pos (rfl : (1 : Nat) = 1)] at h
        exact h
      unfold rX8_judgeUnknowns_b1 at h
      refine wk_iload C dX8_judgeUnknowns_29 rfl ?_
      refine wk_aload_n C dX8_judgeUnknowns_31 rfl rfl ?_
      refine wk_get C (v := .int (gEntry_size S l1A)) huX8_judgeUnknowns_3 hl1A.1 (fun cy => wAt_3 cy _ hl1A.2) rfl 1 (by decide) (List.mem_of_getElem? (i := 2) rfl) rfl rfl dX8_judgeUnknowns_32 ?_
      refine wk_icmp_ge C (tgt := 65) dX8_judgeUnknowns_35 (by decide) (fun c2 => ?_) (fun c2 => ?_)
      · rw [if_pos c2] at h
        refine wk_lload C dX8_judgeUnknowns_65 rfl ?_
        refine wk_aload_n C dX8_judgeUnknowns_67 rfl rfl ?_
        refine wk_iload_n C dX8_judgeUnknowns_68 rfl rfl ?_
        refine wk_callW C hR (As := [.ref l1A, .int l3I]) (cnt := 2) (tX8_rightSide (l := l) hW hl1A h) rfl (wkGoodW (List.mem_of_getElem? (i := 3) rfl) (List.mem_of_getElem? (i := 4) rfl) (List.mem_of_getElem? (i := 5) rfl) hbX8_judgeUnknowns_X8_rightSide gdX8_rightSide) (Nat.le_trans (by decide : 1 + 1 ≤ 2) hd) (by decide) ⟨by decide, by decide, by decide +kernel⟩ rfl rfl (Nat.le_of_ble_eq_true rfl) (Nat.le_refl 0) (Nat.le_refl 0) dX8_judgeUnknowns_69 (fun v' S4 hp => ?_)
        obtain ⟨v3, rfl, h, hWS4, hXS4⟩ := hp
        refine wk_i2l C dX8_judgeUnknowns_72 rfl ?_
        refine wk_lcmp C dX8_judgeUnknowns_73 rfl ?_
        refine wk_if_eq C (tgt := 79) dX8_judgeUnknowns_74 (by decide) (fun c8 => ?_) (fun c8 => ?_)
        · rw [if_pos c8] at h
          obtain ⟨x9, ex9, h⟩ := wkLt_some h
          refine wk_iinc C (lv' := [none, some (.ref l1A), some (.ref l2A), some (.int x9), some (.long l4J), none, some (.int l6I)]) dX8_judgeUnknowns_79 rfl (by rw [ex9]; rfl) (by decide) rfl ?_
          refine wk_goto C (tgt := 15) dX8_judgeUnknowns_82 (by decide) ?_
          exact wk_forget (lv' := [none, some (.ref l1A), some (.ref l2A), some (.int x9), none, none, none]) (wkLs.le ⟨rfl, rfl, rfl, trivial⟩) (ih.1 _ _ _ _ hWS4 (wkExt.tr hE hXS4) (hXS4 _ _ hl1A) (hXS4 _ _ hl2A) h)
        · rw [if_neg c8] at h
          refine wk_iconst C (v := 2) dX8_judgeUnknowns_77 (by decide) ?_
          exact E _ _ _ _ _ _ (Nat.le_refl 0) (Nat.le_refl 0) dX8_judgeUnknowns_78 ⟨(2 : Int32), rfl, h, hWS4, (wkExt.tr hE hXS4)⟩
      · rw [if_neg c2] at h
        refine wk_lload C dX8_judgeUnknowns_38 rfl ?_
        refine wk_aload_n C dX8_judgeUnknowns_40 rfl rfl ?_
        refine wk_iload_n C dX8_judgeUnknowns_41 rfl rfl ?_
        refine wk_iload C dX8_judgeUnknowns_42 rfl ?_
        refine wk_callV C hR (As := [.int l3I, .int l6I]) (cnt := 2) (tX3_at (l := l) hW hl1A h) rfl (wkGoodV (List.mem_of_getElem? (i := 6) rfl) (List.mem_of_getElem? (i := 7) rfl) (List.mem_of_getElem? (i := 8) rfl) (List.mem_of_getElem? (i := 9) rfl) hbX8_judgeUnknowns_X3_at gdX3_at) (Nat.le_trans (by decide : 0 + 1 ≤ 2) hd) (by decide) hl1A.1 (fun cy => wAt_3 cy _ hl1A.2) rfl ⟨by decide, by decide, by decide +kernel⟩ rfl rfl (Nat.le_of_ble_eq_true rfl) (Nat.le_refl 0) (Nat.le_refl 0) dX8_judgeUnknowns_44 (fun v' S11 hp => ?_)
        obtain ⟨v10, rfl, h, hWS11, hXS11⟩ := hp
        refine wk_i2l C dX8_judgeUnknowns_47 rfl ?_
        refine wk_aload_n C dX8_judgeUnknowns_48 rfl rfl ?_
        refine wk_iload C dX8_judgeUnknowns_49 rfl ?_
        refine wk_callV C hR (As := [.int l6I]) (cnt := 1) (tX9_at (l := l) hWS11 (hXS11 _ _ hl2A) h) rfl (wkGoodV (List.mem_of_getElem? (i := 10) rfl) (List.mem_of_getElem? (i := 11) rfl) (List.mem_of_getElem? (i := 12) rfl) (List.mem_of_getElem? (i := 13) rfl) hbX8_judgeUnknowns_X9_at gdX9_at) (Nat.le_trans (by decide : 0 + 1 ≤ 2) hd) (by decide) (hXS11 _ _ hl2A).1 (fun cy => wAt_9 cy _ (hXS11 _ _ hl2A).2) rfl ⟨by decide, by decide, by decide +kernel⟩ rfl rfl (Nat.le_of_ble_eq_true rfl) (Nat.le_refl 0) (Nat.le_refl 0) dX8_judgeUnknowns_51 (fun v' S16 hp => ?_)
        obtain ⟨v15, rfl, h, hWS16, hXS16⟩ := hp
        refine wk_i2l C dX8_judgeUnknowns_54 rfl ?_
        refine wk_lmul C dX8_judgeUnknowns_55 rfl ?_
        refine wk_ladd C dX8_judgeUnknowns_56 rfl ?_
        obtain ⟨x20, ex20, h⟩ := wkLt_some h
        refine wk_topl ex20 ?_
        refine wk_lstore C (lv' := [none, some (.ref l1A), some (.ref l2A), some (.int l3I), some (.long x20), none, some (.int l6I)]) dX8_judgeUnknowns_57 (by decide) rfl ?_
        obtain ⟨x21, ex21, h⟩ := wkLt_some h
        refine wk_iinc C (lv' := [none, some (.ref l1A), some (.ref l2A), some (.int l3I), some (.long x20), none, some (.int x21)]) dX8_judgeUnknowns_59 rfl (by rw [ex21]; rfl) (by decide) rfl ?_
        refine wk_goto C (tgt := 29) dX8_judgeUnknowns_62 (by decide) ?_
        exact wk_forget (lv' := [none, some (.ref l1A), some (.ref l2A), some (.int l3I), some (.long x20), none, some (.int x21)]) (wkLs.le ⟨rfl, rfl, rfl, rfl, rfl, trivial⟩) (ih.2 _ _ _ _ _ _ hWS16 (wkExt.tr (wkExt.tr hE hXS11) hXS16) (hXS16 _ _ (hXS11 _ _ hl1A)) (hXS16 _ _ (hXS11 _ _ hl2A)) h)
set_option maxHeartbeats 4000000 in
set_option maxRecDepth 100000 in
theorem tX8_judgeUnknowns {l : Launch} {g : wkG} {F : Nat}  {S : wPS} {l0A : Nat} {l1A : Nat} {l2A : Nat} {Φ : (Int32 → wPS → Prop)} (hW : wkWF S) (hl0A : wkIs S l0A 8) (hl1A : wkIs S l1A 3) (hl2A : wkIs S l2A 9) (h : rX8_judgeUnknowns F l0A l1A l2A S Φ) : wkMet l g yX8_judgeUnknowns wvX8_judgeUnknowns 2 0 0 [.ref l0A, .ref l1A, .ref l2A] S (fun v' S'' => ∃ v : Int32, v' = some (.int v) ∧ Φ v S'' ∧ wkWF S'' ∧ wkExt S S'') := by
  refine wkMet_of (ret := (some .int)) (by decide) rfl (Nat.le_of_ble_eq_true rfl) (fun X hg C hR E => ?_)
  subst hg
  have hE : wkExt S S := wkExt.rf
  have hd : 2 ≤ 2 := Nat.le_refl _
  show wkGo l X 7 0 0 0 S [some (.ref l0A), some (.ref l1A), some (.ref l2A), none, none, none, none] []
  have ih := tX8_judgeUnknowns_go (F := F) C hR hd E F
  have h : rX8_judgeUnknowns_s F (rX8_judgeUnknowns_go F F) l0A l1A l2A S Φ := h
  unfold rX8_judgeUnknowns_s at h
  refine wk_aload_n C dX8_judgeUnknowns_0 rfl rfl ?_
  refine wk_get C (v := .int (gRow_count S l2A)) huX8_judgeUnknowns_9 hl2A.1 (fun cy => wAt_9 cy _ hl2A.2) rfl 1 (by decide) (List.mem_of_getElem? (i := 14) rfl) rfl rfl dX8_judgeUnknowns_1 ?_
  refine wk_aload_n C dX8_judgeUnknowns_4 rfl rfl ?_
  refine wk_get C (v := .int (gEntry_size S l1A)) huX8_judgeUnknowns_3 hl1A.1 (fun cy => wAt_3 cy _ hl1A.2) rfl 1 (by decide) (List.mem_of_getElem? (i := 2) rfl) rfl rfl dX8_judgeUnknowns_5 ?_
  refine wk_icmp_eq C (tgt := 13) dX8_judgeUnknowns_8 (by decide) (fun c22 => ?_) (fun c22 => ?_)
  · rw [if_pos c22] at h
    refine wk_iconst C (v := 0) dX8_judgeUnknowns_13 (by decide) ?_
    refine wk_istore_n C (lv' := [some (.ref l0A), some (.ref l1A), some (.ref l2A), some (.int (0 : Int32)), none, none, none]) dX8_judgeUnknowns_14 rfl (by decide) rfl ?_
    exact wk_forget (lv' := [none, some (.ref l1A), some (.ref l2A), some (.int (0 : Int32)), none, none, none]) (wkLs.le ⟨rfl, rfl, rfl, trivial⟩) (ih.1 _ _ _ _ hW hE hl1A hl2A h)
  · rw [if_neg c22] at h
    refine wk_iconst C (v := 1) dX8_judgeUnknowns_11 (by decide) ?_
    exact E _ _ _ _ _ _ (Nat.le_refl 0) (Nat.le_refl 0) dX8_judgeUnknowns_12 ⟨(1 : Int32), rfl, h, hW, hE⟩
def wvX8_judgeModulus : List Cond := .code yX8_judgeModulus cX8_judgeModulus 3 (some .int) :: (([.fieldLink RX8 135 "Witnessworks$Row" "count" "I", .fieldLink RX8 71 "Witnessworks$Entry" "itemCount" "I", .methodLink RX8 67 yX9_at, .instanceMethod yX9_at, .selects RX9 yX9_at yX9_at, .initialized RX9, .methodLink RX8 124 yX8_areMultiples, .static yX8_areMultiples, .initialized RX8, .methodLink RX8 128 yX8_isNoMultiple, .static yX8_isNoMultiple] : List Cond) ++ ((wsX90 ++ (wsX30)) ++ (wvX9_at ++ (wvX8_areMultiples ++ (wvX8_isNoMultiple)))))
theorem huX8_judgeModulus_9 : ∀ w ∈ u_ws RX9 TX9 2, w ∈ wvX8_judgeModulus := fun w h => List.mem_cons_of_mem _ (List.mem_append_right _ (List.mem_append_left _ (List.mem_append_left _ h)))
theorem huX8_judgeModulus_3 : ∀ w ∈ u_ws RX3 TX3 17, w ∈ wvX8_judgeModulus := fun w h => List.mem_cons_of_mem _ (List.mem_append_right _ (List.mem_append_left _ (List.mem_append_right _ h)))
theorem hbX8_judgeModulus_X9_at : ∀ w ∈ wvX9_at, w ∈ wvX8_judgeModulus := fun w h => List.mem_cons_of_mem _ (List.mem_append_right _ (List.mem_append_right _ (List.mem_append_left _ h)))
theorem hbX8_judgeModulus_X8_areMultiples : ∀ w ∈ wvX8_areMultiples, w ∈ wvX8_judgeModulus := fun w h => List.mem_cons_of_mem _ (List.mem_append_right _ (List.mem_append_right _ (List.mem_append_right _ (List.mem_append_left _ h))))
theorem hbX8_judgeModulus_X8_isNoMultiple : ∀ w ∈ wvX8_isNoMultiple, w ∈ wvX8_judgeModulus := fun w h => List.mem_cons_of_mem _ (List.mem_append_right _ (List.mem_append_right _ (List.mem_append_right _ (List.mem_append_right _ h))))
theorem gdX8_judgeModulus : ∀ w ∈ wvX8_judgeModulus, wkGd w := wkGdC rfl (wkGdA (wkGdL (by decide +kernel)) (wkGdA (wkGdA gdX9 gdX3) (wkGdA gdX9_at (wkGdA gdX8_areMultiples gdX8_isNoMultiple))))
def rX8_judgeModulus (F : Nat) (l0A : Nat) (l1A : Nat) (l2A : Nat) (S : wPS) (Φ : (Int32 → wPS → Prop)) : Prop :=
  if (gRow_count S l2A) = ((gEntry_itemCount S l1A) + (1 : Int32)) then (rX9_at F l2A (0 : Int32) S fun v2 S3 => if (2 : Int32) ≤ v2 then (rX9_at F l2A (0 : Int32) S3 fun v8 S9 => rX9_at F l2A (1 : Int32) S9 fun v13 S14 => rX9_at F l2A (2 : Int32) S14 fun v18 S19 => rX8_areMultiples F l1A (Int32.toInt64 v8) (Int32.toInt64 v13) (Int32.toInt64 v18) S19 fun v23 S24 => if v23 = 0 then (Φ (2 : Int32) S24) else (rX9_at F l2A (0 : Int32) S24 fun v29 S30 => rX9_at F l2A (1 : Int32) S30 fun v34 S35 => rX9_at F l2A (2 : Int32) S35 fun v39 S40 => rX8_isNoMultiple F l1A (Int32.toInt64 v29) (Int32.toInt64 v34) (Int32.toInt64 v39) S40 fun v44 S45 => if v44 = 0 then (Φ (3 : Int32) S45) else (Φ (0 : Int32) S45))) else (Φ (1 : Int32) S3)) else (Φ (1 : Int32) S)
set_option maxHeartbeats 4000000 in
set_option maxRecDepth 100000 in
theorem tX8_judgeModulus {l : Launch} {g : wkG} {F : Nat}  {S : wPS} {l0A : Nat} {l1A : Nat} {l2A : Nat} {Φ : (Int32 → wPS → Prop)} (hW : wkWF S) (hl0A : wkIs S l0A 8) (hl1A : wkIs S l1A 3) (hl2A : wkIs S l2A 9) (h : rX8_judgeModulus F l0A l1A l2A S Φ) : wkMet l g yX8_judgeModulus wvX8_judgeModulus 3 0 0 [.ref l0A, .ref l1A, .ref l2A] S (fun v' S'' => ∃ v : Int32, v' = some (.int v) ∧ Φ v S'' ∧ wkWF S'' ∧ wkExt S S'') := by
  refine wkMet_of (ret := (some .int)) (by decide) rfl (Nat.le_of_ble_eq_true rfl) (fun X hg C hR E => ?_)
  subst hg
  have hE : wkExt S S := wkExt.rf
  have hd : 3 ≤ 3 := Nat.le_refl _
  show wkGo l X 3 0 0 0 S [some (.ref l0A), some (.ref l1A), some (.ref l2A)] []
  unfold rX8_judgeModulus at h
  refine wk_aload_n C dX8_judgeModulus_0 rfl rfl ?_
  refine wk_get C (v := .int (gRow_count S l2A)) huX8_judgeModulus_9 hl2A.1 (fun cy => wAt_9 cy _ hl2A.2) rfl 1 (by decide) (List.mem_of_getElem? (i := 1) rfl) rfl rfl dX8_judgeModulus_1 ?_
  refine wk_aload_n C dX8_judgeModulus_4 rfl rfl ?_
  refine wk_get C (v := .int (gEntry_itemCount S l1A)) huX8_judgeModulus_3 hl1A.1 (fun cy => wAt_3 cy _ hl1A.2) rfl 6 (by decide) (List.mem_of_getElem? (i := 2) rfl) rfl rfl dX8_judgeModulus_5 ?_
  refine wk_iconst C (v := 1) dX8_judgeModulus_8 (by decide) ?_
  refine wk_iadd C dX8_judgeModulus_9 rfl ?_
  refine wk_icmp_ne C (tgt := 22) dX8_judgeModulus_10 (by decide) (fun c1 => ?_) (fun c1 => ?_)
  · rw [if_neg c1] at h
    refine wk_iconst C (v := 1) dX8_judgeModulus_22 (by decide) ?_
    exact E _ _ _ _ _ _ (Nat.le_refl 0) (Nat.le_refl 0) dX8_judgeModulus_23 ⟨(1 : Int32), rfl, h, hW, hE⟩
  · rw [if_pos c1] at h
    refine wk_aload_n C dX8_judgeModulus_13 rfl rfl ?_
    refine wk_iconst C (v := 0) dX8_judgeModulus_14 (by decide) ?_
    refine wk_callV C hR (As := [.int (0 : Int32)]) (cnt := 1) (tX9_at (l := l) hW hl2A h) rfl (wkGoodV (List.mem_of_getElem? (i := 3) rfl) (List.mem_of_getElem? (i := 4) rfl) (List.mem_of_getElem? (i := 5) rfl) (List.mem_of_getElem? (i := 6) rfl) hbX8_judgeModulus_X9_at gdX9_at) (Nat.le_trans (by decide : 0 + 1 ≤ 3) hd) (by decide) hl2A.1 (fun cy => wAt_9 cy _ hl2A.2) rfl ⟨by decide, by decide, by decide +kernel⟩ rfl rfl (Nat.le_of_ble_eq_true rfl) (Nat.le_refl 0) (Nat.le_refl 0) dX8_judgeModulus_15 (fun v' S3 hp => ?_)
    obtain ⟨v2, rfl, h, hWS3, hXS3⟩ := hp
    refine wk_iconst C (v := 2) dX8_judgeModulus_18 (by decide) ?_
    refine wk_icmp_ge C (tgt := 24) dX8_judgeModulus_19 (by decide) (fun c7 => ?_) (fun c7 => ?_)
    · rw [if_pos c7] at h
      refine wk_aload_n C dX8_judgeModulus_24 rfl rfl ?_
      refine wk_aload_n C dX8_judgeModulus_25 rfl rfl ?_
      refine wk_iconst C (v := 0) dX8_judgeModulus_26 (by decide) ?_
      refine wk_callV C hR (As := [.int (0 : Int32)]) (cnt := 1) (tX9_at (l := l) hWS3 (hXS3 _ _ hl2A) h) rfl (wkGoodV (List.mem_of_getElem? (i := 3) rfl) (List.mem_of_getElem? (i := 4) rfl) (List.mem_of_getElem? (i := 5) rfl) (List.mem_of_getElem? (i := 6) rfl) hbX8_judgeModulus_X9_at gdX9_at) (Nat.le_trans (by decide : 0 + 1 ≤ 3) hd) (by decide) (hXS3 _ _ hl2A).1 (fun cy => wAt_9 cy _ (hXS3 _ _ hl2A).2) rfl ⟨by decide, by decide, by decide +kernel⟩ rfl rfl (Nat.le_of_ble_eq_true rfl) (Nat.le_refl 0) (Nat.le_refl 0) dX8_judgeModulus_27 (fun v' S9 hp => ?_)
      obtain ⟨v8, rfl, h, hWS9, hXS9⟩ := hp
      refine wk_i2l C dX8_judgeModulus_30 rfl ?_
      refine wk_aload_n C dX8_judgeModulus_31 rfl rfl ?_
      refine wk_iconst C (v := 1) dX8_judgeModulus_32 (by decide) ?_
      refine wk_callV C hR (As := [.int (1 : Int32)]) (cnt := 1) (tX9_at (l := l) hWS9 (hXS9 _ _ (hXS3 _ _ hl2A)) h) rfl (wkGoodV (List.mem_of_getElem? (i := 3) rfl) (List.mem_of_getElem? (i := 4) rfl) (List.mem_of_getElem? (i := 5) rfl) (List.mem_of_getElem? (i := 6) rfl) hbX8_judgeModulus_X9_at gdX9_at) (Nat.le_trans (by decide : 0 + 1 ≤ 3) hd) (by decide) (hXS9 _ _ (hXS3 _ _ hl2A)).1 (fun cy => wAt_9 cy _ (hXS9 _ _ (hXS3 _ _ hl2A)).2) rfl ⟨by decide, by decide, by decide +kernel⟩ rfl rfl (Nat.le_of_ble_eq_true rfl) (Nat.le_refl 0) (Nat.le_refl 0) dX8_judgeModulus_33 (fun v' S14 hp => ?_)
      obtain ⟨v13, rfl, h, hWS14, hXS14⟩ := hp
      refine wk_i2l C dX8_judgeModulus_36 rfl ?_
      refine wk_aload_n C dX8_judgeModulus_37 rfl rfl ?_
      refine wk_iconst C (v := 2) dX8_judgeModulus_38 (by decide) ?_
      refine wk_callV C hR (As := [.int (2 : Int32)]) (cnt := 1) (tX9_at (l := l) hWS14 (hXS14 _ _ (hXS9 _ _ (hXS3 _ _ hl2A))) h) rfl (wkGoodV (List.mem_of_getElem? (i := 3) rfl) (List.mem_of_getElem? (i := 4) rfl) (List.mem_of_getElem? (i := 5) rfl) (List.mem_of_getElem? (i := 6) rfl) hbX8_judgeModulus_X9_at gdX9_at) (Nat.le_trans (by decide : 0 + 1 ≤ 3) hd) (by decide) (hXS14 _ _ (hXS9 _ _ (hXS3 _ _ hl2A))).1 (fun cy => wAt_9 cy _ (hXS14 _ _ (hXS9 _ _ (hXS3 _ _ hl2A))).2) rfl ⟨by decide, by decide, by decide +kernel⟩ rfl rfl (Nat.le_of_ble_eq_true rfl) (Nat.le_refl 0) (Nat.le_refl 0) dX8_judgeModulus_39 (fun v' S19 hp => ?_)
      obtain ⟨v18, rfl, h, hWS19, hXS19⟩ := hp
      refine wk_i2l C dX8_judgeModulus_42 rfl ?_
      refine wk_callW C hR (As := [.ref l1A, .long (Int32.toInt64 v8), .long (Int32.toInt64 v13), .long (Int32.toInt64 v18)]) (cnt := 4) (tX8_areMultiples (l := l) hWS19 (hXS19 _ _ (hXS14 _ _ (hXS9 _ _ (hXS3 _ _ hl1A)))) h) rfl (wkGoodW (List.mem_of_getElem? (i := 7) rfl) (List.mem_of_getElem? (i := 8) rfl) (List.mem_of_getElem? (i := 9) rfl) hbX8_judgeModulus_X8_areMultiples gdX8_areMultiples) (Nat.le_trans (by decide : 1 + 1 ≤ 3) hd) (by decide) ⟨by decide, by decide, by decide +kernel⟩ rfl rfl (Nat.le_of_ble_eq_true rfl) (Nat.le_refl 0) (Nat.le_refl 0) dX8_judgeModulus_43 (fun v' S24 hp => ?_)
      obtain ⟨v23, rfl, h, hWS24, hXS24⟩ := hp
      refine wk_if_ne C (tgt := 51) dX8_judgeModulus_46 (by decide) (fun c28 => ?_) (fun c28 => ?_)
      · rw [if_neg c28] at h
        refine wk_aload_n C dX8_judgeModulus_51 rfl rfl ?_
        refine wk_aload_n C dX8_judgeModulus_52 rfl rfl ?_
        refine wk_iconst C (v := 0) dX8_judgeModulus_53 (by decide) ?_
        refine wk_callV C hR (As := [.int (0 : Int32)]) (cnt := 1) (tX9_at (l := l) hWS24 (hXS24 _ _ (hXS19 _ _ (hXS14 _ _ (hXS9 _ _ (hXS3 _ _ hl2A))))) h) rfl (wkGoodV (List.mem_of_getElem? (i := 3) rfl) (List.mem_of_getElem? (i := 4) rfl) (List.mem_of_getElem? (i := 5) rfl) (List.mem_of_getElem? (i := 6) rfl) hbX8_judgeModulus_X9_at gdX9_at) (Nat.le_trans (by decide : 0 + 1 ≤ 3) hd) (by decide) (hXS24 _ _ (hXS19 _ _ (hXS14 _ _ (hXS9 _ _ (hXS3 _ _ hl2A))))).1 (fun cy => wAt_9 cy _ (hXS24 _ _ (hXS19 _ _ (hXS14 _ _ (hXS9 _ _ (hXS3 _ _ hl2A))))).2) rfl ⟨by decide, by decide, by decide +kernel⟩ rfl rfl (Nat.le_of_ble_eq_true rfl) (Nat.le_refl 0) (Nat.le_refl 0) dX8_judgeModulus_54 (fun v' S30 hp => ?_)
        obtain ⟨v29, rfl, h, hWS30, hXS30⟩ := hp
        refine wk_i2l C dX8_judgeModulus_57 rfl ?_
        refine wk_aload_n C dX8_judgeModulus_58 rfl rfl ?_
        refine wk_iconst C (v := 1) dX8_judgeModulus_59 (by decide) ?_
        refine wk_callV C hR (As := [.int (1 : Int32)]) (cnt := 1) (tX9_at (l := l) hWS30 (hXS30 _ _ (hXS24 _ _ (hXS19 _ _ (hXS14 _ _ (hXS9 _ _ (hXS3 _ _ hl2A)))))) h) rfl (wkGoodV (List.mem_of_getElem? (i := 3) rfl) (List.mem_of_getElem? (i := 4) rfl) (List.mem_of_getElem? (i := 5) rfl) (List.mem_of_getElem? (i := 6) rfl) hbX8_judgeModulus_X9_at gdX9_at) (Nat.le_trans (by decide : 0 + 1 ≤ 3) hd) (by decide) (hXS30 _ _ (hXS24 _ _ (hXS19 _ _ (hXS14 _ _ (hXS9 _ _ (hXS3 _ _ hl2A)))))).1 (fun cy => wAt_9 cy _ (hXS30 _ _ (hXS24 _ _ (hXS19 _ _ (hXS14 _ _ (hXS9 _ _ (hXS3 _ _ hl2A)))))).2) rfl ⟨by decide, by decide, by decide +kernel⟩ rfl rfl (Nat.le_of_ble_eq_true rfl) (Nat.le_refl 0) (Nat.le_refl 0) dX8_judgeModulus_60 (fun v' S35 hp => ?_)
        obtain ⟨v34, rfl, h, hWS35, hXS35⟩ := hp
        refine wk_i2l C dX8_judgeModulus_63 rfl ?_
        refine wk_aload_n C dX8_judgeModulus_64 rfl rfl ?_
        refine wk_iconst C (v := 2) dX8_judgeModulus_65 (by decide) ?_
        refine wk_callV C hR (As := [.int (2 : Int32)]) (cnt := 1) (tX9_at (l := l) hWS35 (hXS35 _ _ (hXS30 _ _ (hXS24 _ _ (hXS19 _ _ (hXS14 _ _ (hXS9 _ _ (hXS3 _ _ hl2A))))))) h) rfl (wkGoodV (List.mem_of_getElem? (i := 3) rfl) (List.mem_of_getElem? (i := 4) rfl) (List.mem_of_getElem? (i := 5) rfl) (List.mem_of_getElem? (i := 6) rfl) hbX8_judgeModulus_X9_at gdX9_at) (Nat.le_trans (by decide : 0 + 1 ≤ 3) hd) (by decide) (hXS35 _ _ (hXS30 _ _ (hXS24 _ _ (hXS19 _ _ (hXS14 _ _ (hXS9 _ _ (hXS3 _ _ hl2A))))))).1 (fun cy => wAt_9 cy _ (hXS35 _ _ (hXS30 _ _ (hXS24 _ _ (hXS19 _ _ (hXS14 _ _ (hXS9 _ _ (hXS3 _ _ hl2A))))))).2) rfl ⟨by decide, by decide, by decide +kernel⟩ rfl rfl (Nat.le_of_ble_eq_true rfl) (Nat.le_refl 0) (Nat.le_refl 0) dX8_judgeModulus_66 (fun v' S40 hp => ?_)
        obtain ⟨v39, rfl, h, hWS40, hXS40⟩ := hp
        refine wk_i2l C dX8_judgeModulus_69 rfl ?_
        refine wk_callW C hR (As := [.ref l1A, .long (Int32.toInt64 v29), .long (Int32.toInt64 v34), .long (Int32.toInt64 v39)]) (cnt := 4) (tX8_isNoMultiple (l := l) hWS40 (hXS40 _ _ (hXS35 _ _ (hXS30 _ _ (hXS24 _ _ (hXS19 _ _ (hXS14 _ _ (hXS9 _ _ (hXS3 _ _ hl1A)))))))) h) rfl (wkGoodW (List.mem_of_getElem? (i := 10) rfl) (List.mem_of_getElem? (i := 11) rfl) (List.mem_of_getElem? (i := 9) rfl) hbX8_judgeModulus_X8_isNoMultiple gdX8_isNoMultiple) (Nat.le_trans (by decide : 2 + 1 ≤ 3) hd) (by decide) ⟨by decide, by decide, by decide +kernel⟩ rfl rfl (Nat.le_of_ble_eq_true rfl) (Nat.le_refl 0) (Nat.le_refl 0) dX8_judgeModulus_70 (fun v' S45 hp => ?_)
        obtain ⟨v44, rfl, h, hWS45, hXS45⟩ := hp
        refine wk_if_eq C (tgt := 80) dX8_judgeModulus_73 (by decide) (fun c49 => ?_) (fun c49 => ?_)
        · rw [if_pos c49] at h
          refine wk_iconst C (v := 3) dX8_judgeModulus_80 (by decide) ?_
          exact E _ _ _ _ _ _ (Nat.le_refl 0) (Nat.le_refl 0) dX8_judgeModulus_81 ⟨(3 : Int32), rfl, h, hWS45, (wkExt.tr (wkExt.tr (wkExt.tr (wkExt.tr (wkExt.tr (wkExt.tr (wkExt.tr (wkExt.tr (wkExt.tr hE hXS3) hXS9) hXS14) hXS19) hXS24) hXS30) hXS35) hXS40) hXS45)⟩
        · rw [if_neg c49] at h
          refine wk_iconst C (v := 0) dX8_judgeModulus_76 (by decide) ?_
          refine wk_goto C (tgt := 81) dX8_judgeModulus_77 (by decide) ?_
          exact E _ _ _ _ _ _ (Nat.le_refl 0) (Nat.le_refl 0) dX8_judgeModulus_81 ⟨(0 : Int32), rfl, h, hWS45, (wkExt.tr (wkExt.tr (wkExt.tr (wkExt.tr (wkExt.tr (wkExt.tr (wkExt.tr (wkExt.tr (wkExt.tr hE hXS3) hXS9) hXS14) hXS19) hXS24) hXS30) hXS35) hXS40) hXS45)⟩
      · rw [if_pos c28] at h
        refine wk_iconst C (v := 2) dX8_judgeModulus_49 (by decide) ?_
        exact E _ _ _ _ _ _ (Nat.le_refl 0) (Nat.le_refl 0) dX8_judgeModulus_50 ⟨(2 : Int32), rfl, h, hWS24, (wkExt.tr (wkExt.tr (wkExt.tr (wkExt.tr (wkExt.tr hE hXS3) hXS9) hXS14) hXS19) hXS24)⟩
    · rw [if_neg c7] at h
      refine wk_iconst C (v := 1) dX8_judgeModulus_22 (by decide) ?_
      exact E _ _ _ _ _ _ (Nat.le_refl 0) (Nat.le_refl 0) dX8_judgeModulus_23 ⟨(1 : Int32), rfl, h, hWS3, (wkExt.tr hE hXS3)⟩
def wvX8_isBaseOf : List Cond := .code yX8_isBaseOf cX8_isBaseOf 5 (some .boolean) :: (([.methodLink RX8 138 yX8_leastDivisor, .static yX8_leastDivisor, .initialized RX8, .static yX11_restOfPower, .initialized RX11, .methodLink RX8 148 yX8_withoutDivisor, .static yX8_withoutDivisor] : List Cond) ++ (([]) ++ (wvX8_leastDivisor ++ (wvX11_restOfPower ++ (wvX8_withoutDivisor)))))
theorem hbX8_isBaseOf_X8_leastDivisor : ∀ w ∈ wvX8_leastDivisor, w ∈ wvX8_isBaseOf := fun w h => List.mem_cons_of_mem _ (List.mem_append_right _ (List.mem_append_right _ (List.mem_append_left _ h)))
theorem hbX8_isBaseOf_X11_restOfPower : ∀ w ∈ wvX11_restOfPower, w ∈ wvX8_isBaseOf := fun w h => List.mem_cons_of_mem _ (List.mem_append_right _ (List.mem_append_right _ (List.mem_append_right _ (List.mem_append_left _ h))))
theorem hbX8_isBaseOf_X8_withoutDivisor : ∀ w ∈ wvX8_withoutDivisor, w ∈ wvX8_isBaseOf := fun w h => List.mem_cons_of_mem _ (List.mem_append_right _ (List.mem_append_right _ (List.mem_append_right _ (List.mem_append_right _ h))))
theorem gdX8_isBaseOf : ∀ w ∈ wvX8_isBaseOf, wkGd w := wkGdC rfl (wkGdA (wkGdL (by decide +kernel)) (wkGdA (fun _ h => absurd h List.not_mem_nil) (wkGdA gdX8_leastDivisor (wkGdA gdX11_restOfPower gdX8_withoutDivisor))))
def rX8_isBaseOf_b0 (F : Nat) (rec : Nat → Int32 → Int32 → Int32 → Int32 → wPS → (Int32 → wPS → Prop) → Prop) (l0I : Int32) (l1I : Int32) (l2I : Int32) (l3I : Int32) (S : wPS) (Φ : (Int32 → wPS → Prop)) : Prop :=
  if (40 : Int32) ≤ l3I then (Φ (1 : Int32) S) else (if l2I ≤ (1 : Int32) then (Φ (1 : Int32) S) else (rX8_leastDivisor F l2I S fun v3 S4 => if v3 < (2 : Int32) then (Φ (0 : Int32) S4) else (¬ v3 = 0 ∧ rX11_restOfPower F l0I ((l1I - (1 : Int32)) / v3) l1I S4 fun v10 S11 => if v10 = (1 : Int32) then (Φ (0 : Int32) S11) else (rX8_withoutDivisor F l2I v3 S11 fun v16 S17 => wkLt (l3I + (1 : Int32)) fun x21 => rec 0 l0I l1I v16 x21 S17 Φ))))
def rX8_isBaseOf_go (F : Nat) : Nat → Nat → Int32 → Int32 → Int32 → Int32 → wPS → (Int32 → wPS → Prop) → Prop
  | 0, _, _, _, _, _, _, _ => False
  | k' + 1, lab, l0I, l1I, l2I, l3I, S, Φ => if lab = 0 then rX8_isBaseOf_b0 F (rX8_isBaseOf_go F k') l0I l1I l2I l3I S Φ else False
def rX8_isBaseOf_s (F : Nat) (rec : Nat → Int32 → Int32 → Int32 → Int32 → wPS → (Int32 → wPS → Prop) → Prop) (l0I : Int32) (l1I : Int32) (S : wPS) (Φ : (Int32 → wPS → Prop)) : Prop :=
  wkLt ((l1I - (1 : Int32))) fun x22 => rec 0 l0I l1I x22 (0 : Int32) S Φ
def rX8_isBaseOf (F : Nat) (l0I : Int32) (l1I : Int32) (S : wPS) (Φ : (Int32 → wPS → Prop)) : Prop := rX8_isBaseOf_s F (rX8_isBaseOf_go F F) l0I l1I S Φ
set_option maxHeartbeats 4000000 in
set_option maxRecDepth 100000 in
theorem tX8_isBaseOf_go {l : Launch} {X : wkX} {d F : Nat} {S0 : wPS} {Φ : (Int32 → wPS → Prop)} (C : wkC X cX8_isBaseOf RX8 5 wvX8_isBaseOf) (hR : wkRm X d 0 0) (hd : 1 ≤ d) (E : wkEnd l X cX8_isBaseOf 5 (some .boolean) 0 0 (fun v' S'' => ∃ v : Int32, v' = some (.int v) ∧ Φ v S'' ∧ wkWF S'' ∧ wkExt S0 S'')) : ∀ k' : Nat, (∀ (l0I : Int32) (l1I : Int32) (l2I : Int32) (l3I : Int32) (S : wPS), wkWF S → wkExt S0 S → rX8_isBaseOf_go F k' 0 l0I l1I l2I l3I S Φ → wkGo l X 5 0 0 6 S [some (.int l0I), some (.int l1I), some (.int l2I), some (.int l3I), none] []) := by
  intro k'
  induction k' with
  | zero => exact fun l0I l1I l2I l3I S hW hE  h => h.elim
  | succ k' ih =>
    · intro l0I l1I l2I l3I S hW hE  h
      have h : rX8_isBaseOf_b0 F (rX8_isBaseOf_go F k') l0I l1I l2I l3I S Φ := by
        rw [rX8_isBaseOf_go, if_pos (rfl : (0 : Nat) = 0)] at h
        exact h
      unfold rX8_isBaseOf_b0 at h
      refine wk_iload_n C dX8_isBaseOf_6 rfl rfl ?_
      refine wk_bipush C (v := 40) dX8_isBaseOf_7 (by decide) ?_
      refine wk_icmp_ge C (tgt := 59) dX8_isBaseOf_9 (by decide) (fun c1 => ?_) (fun c1 => ?_)
      · rw [if_pos c1] at h
        refine wk_iconst C (v := 1) dX8_isBaseOf_59 (by decide) ?_
        exact E _ _ _ _ _ _ (Nat.le_refl 0) (Nat.le_refl 0) dX8_isBaseOf_60 rfl ⟨(1 : Int32), rfl, h, hW, hE⟩
      · rw [if_neg c1] at h
        refine wk_iload_n C dX8_isBaseOf_12 rfl rfl ?_
        refine wk_iconst C (v := 1) dX8_isBaseOf_13 (by decide) ?_
        refine wk_icmp_le C (tgt := 59) dX8_isBaseOf_14 (by decide) (fun c2 => ?_) (fun c2 => ?_)
        · rw [if_pos c2] at h
          refine wk_iconst C (v := 1) dX8_isBaseOf_59 (by decide) ?_
          exact E _ _ _ _ _ _ (Nat.le_refl 0) (Nat.le_refl 0) dX8_isBaseOf_60 rfl ⟨(1 : Int32), rfl, h, hW, hE⟩
        · rw [if_neg c2] at h
          refine wk_iload_n C dX8_isBaseOf_17 rfl rfl ?_
          refine wk_callW C hR (As := [.int l2I]) (cnt := 1) (tX8_leastDivisor (l := l) hW  h) rfl (wkGoodW (List.mem_of_getElem? (i := 1) rfl) (List.mem_of_getElem? (i := 2) rfl) (List.mem_of_getElem? (i := 3) rfl) hbX8_isBaseOf_X8_leastDivisor gdX8_leastDivisor) (Nat.le_trans (by decide : 0 + 1 ≤ 1) hd) (by decide) ⟨by decide, by decide, by decide +kernel⟩ rfl rfl (Nat.le_of_ble_eq_true rfl) (Nat.le_refl 0) (Nat.le_refl 0) dX8_isBaseOf_18 (fun v' S4 hp => ?_)
          obtain ⟨v3, rfl, h, hWS4, hXS4⟩ := hp
          refine wk_istore C (lv' := [some (.int l0I), some (.int l1I), some (.int l2I), some (.int l3I), some (.int v3)]) dX8_isBaseOf_21 (by decide) rfl ?_
          refine wk_iload C dX8_isBaseOf_23 rfl ?_
          refine wk_iconst C (v := 2) dX8_isBaseOf_25 (by decide) ?_
          refine wk_icmp_lt C (tgt := 44) dX8_isBaseOf_26 (by decide) (fun c8 => ?_) (fun c8 => ?_)
          · rw [if_pos c8] at h
            refine wk_iconst C (v := 0) dX8_isBaseOf_44 (by decide) ?_
            exact E _ _ _ _ _ _ (Nat.le_refl 0) (Nat.le_refl 0) dX8_isBaseOf_45 rfl ⟨(0 : Int32), rfl, h, hWS4, (wkExt.tr hE hXS4)⟩
          · rw [if_neg c8] at h
            refine wk_iload_n C dX8_isBaseOf_29 rfl rfl ?_
            refine wk_iload_n C dX8_isBaseOf_30 rfl rfl ?_
            refine wk_iconst C (v := 1) dX8_isBaseOf_31 (by decide) ?_
            refine wk_isub C dX8_isBaseOf_32 rfl ?_
            refine wk_iload C dX8_isBaseOf_33 rfl ?_
            obtain ⟨z9, h⟩ := h
            refine wk_idiv C dX8_isBaseOf_35 z9 rfl ?_
            refine wk_iload_n C dX8_isBaseOf_36 rfl rfl ?_
            refine wk_callN C hR (y := yX11_restOfPower) (host := "Witnessworks") (As := [.int l0I, .int ((l1I - (1 : Int32)) / v3), .int l1I]) (cnt := 3) (tX11_restOfPower (l := l) hWS4  h) rfl (fun w h => ⟨hbX8_isBaseOf_X11_restOfPower w h, gdX11_restOfPower w h⟩) (by decide +kernel) (List.mem_of_getElem? (i := 4) rfl) (List.mem_of_getElem? (i := 5) rfl) (Nat.le_trans (by decide : 0 + 1 ≤ 1) hd) (by decide) ⟨by decide, by decide, by decide +kernel⟩ rfl rfl (Nat.le_of_ble_eq_true rfl) (Nat.le_refl 0) (Nat.le_refl 0) dX8_isBaseOf_37 (fun v' S11 hp => ?_)
            obtain ⟨v10, rfl, h, hWS11, hXS11⟩ := hp
            refine wk_iconst C (v := 1) dX8_isBaseOf_40 (by decide) ?_
            refine wk_icmp_ne C (tgt := 46) dX8_isBaseOf_41 (by decide) (fun c15 => ?_) (fun c15 => ?_)
            · rw [if_neg c15] at h
              refine wk_iload_n C dX8_isBaseOf_46 rfl rfl ?_
              refine wk_iload C dX8_isBaseOf_47 rfl ?_
              refine wk_callW C hR (As := [.int l2I, .int v3]) (cnt := 2) (tX8_withoutDivisor (l := l) hWS11  h) rfl (wkGoodW (List.mem_of_getElem? (i := 6) rfl) (List.mem_of_getElem? (i := 7) rfl) (List.mem_of_getElem? (i := 3) rfl) hbX8_isBaseOf_X8_withoutDivisor gdX8_withoutDivisor) (Nat.le_trans (by decide : 0 + 1 ≤ 1) hd) (by decide) ⟨by decide, by decide, by decide +kernel⟩ rfl rfl (Nat.le_of_ble_eq_true rfl) (Nat.le_refl 0) (Nat.le_refl 0) dX8_isBaseOf_49 (fun v' S17 hp => ?_)
              obtain ⟨v16, rfl, h, hWS17, hXS17⟩ := hp
              refine wk_istore_n C (lv' := [some (.int l0I), some (.int l1I), some (.int v16), some (.int l3I), some (.int v3)]) dX8_isBaseOf_52 rfl (by decide) rfl ?_
              obtain ⟨x21, ex21, h⟩ := wkLt_some h
              refine wk_iinc C (lv' := [some (.int l0I), some (.int l1I), some (.int v16), some (.int x21), some (.int v3)]) dX8_isBaseOf_53 rfl (by rw [ex21]; rfl) (by decide) rfl ?_
              refine wk_goto C (tgt := 6) dX8_isBaseOf_56 (by decide) ?_
              exact wk_forget (lv' := [some (.int l0I), some (.int l1I), some (.int v16), some (.int x21), none]) (wkLs.le ⟨rfl, rfl, rfl, rfl, trivial⟩) (ih _ _ _ _ _ hWS17 (wkExt.tr (wkExt.tr (wkExt.tr hE hXS4) hXS11) hXS17)  h)
            · rw [if_pos c15] at h
              refine wk_iconst C (v := 0) dX8_isBaseOf_44 (by decide) ?_
              exact E _ _ _ _ _ _ (Nat.le_refl 0) (Nat.le_refl 0) dX8_isBaseOf_45 rfl ⟨(0 : Int32), rfl, h, hWS11, (wkExt.tr (wkExt.tr hE hXS4) hXS11)⟩
set_option maxHeartbeats 4000000 in
set_option maxRecDepth 100000 in
theorem tX8_isBaseOf {l : Launch} {g : wkG} {F : Nat}  {S : wPS} {l0I : Int32} {l1I : Int32} {Φ : (Int32 → wPS → Prop)} (hW : wkWF S)  (h : rX8_isBaseOf F l0I l1I S Φ) : wkMet l g yX8_isBaseOf wvX8_isBaseOf 1 0 0 [.int l0I, .int l1I] S (fun v' S'' => ∃ v : Int32, v' = some (.int v) ∧ Φ v S'' ∧ wkWF S'' ∧ wkExt S S'') := by
  refine wkMet_of (ret := (some .boolean)) (by decide) rfl (Nat.le_of_ble_eq_true rfl) (fun X hg C hR E => ?_)
  subst hg
  have hE : wkExt S S := wkExt.rf
  have hd : 1 ≤ 1 := Nat.le_refl _
  show wkGo l X 5 0 0 0 S [some (.int l0I), some (.int l1I), none, none, none] []
  have ih := tX8_isBaseOf_go (F := F) C hR hd E F
  have h : rX8_isBaseOf_s F (rX8_isBaseOf_go F F) l0I l1I S Φ := h
  unfold rX8_isBaseOf_s at h
  refine wk_iload_n C dX8_isBaseOf_0 rfl rfl ?_
  refine wk_iconst C (v := 1) dX8_isBaseOf_1 (by decide) ?_
  refine wk_isub C dX8_isBaseOf_2 rfl ?_
  obtain ⟨x22, ex22, h⟩ := wkLt_some h
  refine wk_topi ex22 ?_
  refine wk_istore_n C (lv' := [some (.int l0I), some (.int l1I), some (.int x22), none, none]) dX8_isBaseOf_3 rfl (by decide) rfl ?_
  refine wk_iconst C (v := 0) dX8_isBaseOf_4 (by decide) ?_
  refine wk_istore_n C (lv' := [some (.int l0I), some (.int l1I), some (.int x22), some (.int (0 : Int32)), none]) dX8_isBaseOf_5 rfl (by decide) rfl ?_
  exact wk_forget (lv' := [some (.int l0I), some (.int l1I), some (.int x22), some (.int (0 : Int32)), none]) (wkLs.le ⟨rfl, rfl, rfl, rfl, trivial⟩) (ih _ _ _ _ _ hW hE  h)
