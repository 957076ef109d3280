def wvX4_addSomeEdge : List Cond := .code yX4_addSomeEdge cX4_addSomeEdge 6 (some .boolean) :: (([.fieldLink RX4 219 "Witnessworks$Entry" "itemCount" "I", .methodLink RX4 222 yX3_at, .instanceMethod yX3_at, .selects RX3 yX3_at yX3_at, .initialized RX3, .methodLink RX4 269 yX3_addTo, .instanceMethod yX3_addTo, .selects RX3 yX3_addTo yX3_addTo, .methodLink RX4 255 yX3_addItem, .instanceMethod yX3_addItem, .selects RX3 yX3_addItem yX3_addItem] : List Cond) ++ ((wsX30) ++ (wvX3_at ++ (wvX3_addTo ++ (wvX3_addItem)))))
theorem huX4_addSomeEdge_3 : ∀ w ∈ u_ws RX3 TX3 17, w ∈ wvX4_addSomeEdge := fun w h => List.mem_cons_of_mem _ (List.mem_append_right _ (List.mem_append_left _ h))
theorem hbX4_addSomeEdge_X3_at : ∀ w ∈ wvX3_at, w ∈ wvX4_addSomeEdge := fun w h => List.mem_cons_of_mem _ (List.mem_append_right _ (List.mem_append_right _ (List.mem_append_left _ h)))
theorem hbX4_addSomeEdge_X3_addTo : ∀ w ∈ wvX3_addTo, w ∈ wvX4_addSomeEdge := fun w h => List.mem_cons_of_mem _ (List.mem_append_right _ (List.mem_append_right _ (List.mem_append_right _ (List.mem_append_left _ h))))
theorem hbX4_addSomeEdge_X3_addItem : ∀ w ∈ wvX3_addItem, w ∈ wvX4_addSomeEdge := fun w h => List.mem_cons_of_mem _ (List.mem_append_right _ (List.mem_append_right _ (List.mem_append_right _ (List.mem_append_right _ h))))
theorem gdX4_addSomeEdge : ∀ w ∈ wvX4_addSomeEdge, wkGd w := wkGdC rfl (wkGdA (wkGdL (by decide +kernel)) (wkGdA gdX3 (wkGdA gdX3_at (wkGdA gdX3_addTo gdX3_addItem))))
def rX4_addSomeEdge_b0 (F : Nat) (rec : Nat → Nat → Nat → Int32 → Int32 → Int32 → Int32 → wPS → (Int32 → wPS → Prop) → Prop) (l0A : Nat) (l1A : Nat) (l2I : Int32) (l3I : Int32) (l4I : Int32) (l5I : Int32) (S : wPS) (Φ : (Int32 → wPS → Prop)) : Prop :=
  if (gEntry_itemCount S l0A) ≤ l5I then (if l4I < (1 : Int32) then (Φ (0 : Int32) S) else (if (3 : Int32) < l4I then (Φ (0 : Int32) S) else (Φ (1 : Int32) S))) else (rX3_at F l0A l5I (0 : Int32) S fun v4 S5 => if v4 = l2I then (rec 1 l0A l1A l2I l3I l4I l5I S5 Φ) else (rX3_at F l0A l5I (1 : Int32) S5 fun v10 S11 => if v10 = l2I then (rec 1 l0A l1A l2I l3I l4I l5I S11 Φ) else (wkLt (l5I + (1 : Int32)) fun x16 => rec 0 l0A l1A l2I l3I l4I x16 S11 Φ)))
def rX4_addSomeEdge_b1 (F : Nat) (rec : Nat → Nat → Nat → Int32 → Int32 → Int32 → Int32 → wPS → (Int32 → wPS → Prop) → Prop) (l0A : Nat) (l1A : Nat) (l2I : Int32) (l3I : Int32) (l4I : Int32) (l5I : Int32) (S : wPS) (Φ : (Int32 → wPS → Prop)) : Prop :=
  if l4I = 0 then (rX3_addItem F l1A (0 : Int32) (0 : Int32) (0 : Int32) S fun v28 S29 => if (3 : Int32) ≤ l4I then (wkLt (l4I + (1 : Int32)) fun x34 => wkLt (l5I + (1 : Int32)) fun x35 => rec 0 l0A l1A l2I l3I x34 x35 S29 Φ) else (rX3_addTo F l1A l3I l4I (l5I + (1 : Int32)) S29 fun v36 S37 => wkLt (l4I + (1 : Int32)) fun x41 => wkLt (l5I + (1 : Int32)) fun x42 => rec 0 l0A l1A l2I l3I x41 x42 S37 Φ)) else (if (3 : Int32) ≤ l4I then (wkLt (l4I + (1 : Int32)) fun x19 => wkLt (l5I + (1 : Int32)) fun x20 => rec 0 l0A l1A l2I l3I x19 x20 S Φ) else (rX3_addTo F l1A l3I l4I (l5I + (1 : Int32)) S fun v21 S22 => wkLt (l4I + (1 : Int32)) fun x26 => wkLt (l5I + (1 : Int32)) fun x27 => rec 0 l0A l1A l2I l3I x26 x27 S22 Φ))
def rX4_addSomeEdge_go (F : Nat) : Nat → Nat → Nat → Nat → Int32 → Int32 → Int32 → Int32 → wPS → (Int32 → wPS → Prop) → Prop
  | 0, _, _, _, _, _, _, _, _, _ => False
  | k' + 1, lab, l0A, l1A, l2I, l3I, l4I, l5I, S, Φ => if lab = 0 then rX4_addSomeEdge_b0 F (rX4_addSomeEdge_go F k') l0A l1A l2I l3I l4I l5I S Φ else if lab = 1 then rX4_addSomeEdge_b1 F (rX4_addSomeEdge_go F k') l0A l1A l2I l3I l4I l5I S Φ else False
def rX4_addSomeEdge_s (F : Nat) (rec : Nat → Nat → Nat → Int32 → Int32 → Int32 → Int32 → wPS → (Int32 → wPS → Prop) → Prop) (l0A : Nat) (l1A : Nat) (l2I : Int32) (S : wPS) (Φ : (Int32 → wPS → Prop)) : Prop :=
  wkLt ((gEntry_itemCount S l1A)) fun x43 => rec 0 l0A l1A l2I x43 (0 : Int32) (0 : Int32) S Φ
def rX4_addSomeEdge (F : Nat) (l0A : Nat) (l1A : Nat) (l2I : Int32) (S : wPS) (Φ : (Int32 → wPS → Prop)) : Prop := rX4_addSomeEdge_s F (rX4_addSomeEdge_go F F) l0A l1A l2I S Φ
set_option maxHeartbeats 4000000 in
set_option maxRecDepth 100000 in
theorem tX4_addSomeEdge_go {l : Launch} {X : wkX} {d F : Nat} {S0 : wPS} {Φ : (Int32 → wPS → Prop)} (C : wkC X cX4_addSomeEdge RX4 6 wvX4_addSomeEdge) (hR : wkRm X d 0 0) (hd : 1 ≤ d) (E : wkEnd l X cX4_addSomeEdge 6 (some .boolean) 0 0 (fun v' S'' => ∃ v : Int32, v' = some (.int v) ∧ Φ v S'' ∧ wkWF S'' ∧ wkExt S0 S'')) : ∀ k' : Nat, (∀ (l0A : Nat) (l1A : Nat) (l2I : Int32) (l3I : Int32) (l4I : Int32) (l5I : Int32) (S : wPS), wkWF S → wkExt S0 S → wkIs S l0A 3 → wkIs S l1A 3 → rX4_addSomeEdge_go F k' 0 l0A l1A l2I l3I l4I l5I S Φ → wkGo l X 6 0 0 11 S [some (.ref l0A), some (.ref l1A), some (.int l2I), some (.int l3I), some (.int l4I), some (.int l5I)] []) ∧ (∀ (l0A : Nat) (l1A : Nat) (l2I : Int32) (l3I : Int32) (l4I : Int32) (l5I : Int32) (S : wPS), wkWF S → wkExt S0 S → wkIs S l0A 3 → wkIs S l1A 3 → rX4_addSomeEdge_go F k' 1 l0A l1A l2I l3I l4I l5I S Φ → wkGo l X 6 0 0 42 S [some (.ref l0A), some (.ref l1A), some (.int l2I), some (.int l3I), some (.int l4I), some (.int l5I)] []) := by
  intro k'
  induction k' with
  | zero => exact ⟨fun l0A l1A l2I l3I l4I l5I S hW hE hl0A hl1A h => h.elim, fun l0A l1A l2I l3I l4I l5I S hW hE hl0A hl1A h => h.elim⟩
  | succ k' ih =>
    refine ⟨?_, ?_⟩
    · intro l0A l1A l2I l3I l4I l5I S hW hE hl0A hl1A h
      have h : rX4_addSomeEdge_b0 F (rX4_addSomeEdge_go F k') l0A l1A l2I l3I l4I l5I S Φ := by
        rw [rX4_addSomeEdge_go, if_pos (rfl : (0 : Nat) = 0)] at h
        exact h
      unfold rX4_addSomeEdge_b0 at h
      refine wk_iload C dX4_addSomeEdge_11 rfl ?_
      refine wk_aload_n C dX4_addSomeEdge_13 rfl rfl ?_
      refine wk_get C (v := .int (gEntry_itemCount S l0A)) huX4_addSomeEdge_3 hl0A.1 (fun cy => wAt_3 cy _ hl0A.2) rfl 6 (by decide) (List.mem_of_getElem? (i := 1) rfl) rfl rfl dX4_addSomeEdge_14 ?_
      refine wk_icmp_ge C (tgt := 80) dX4_addSomeEdge_17 (by decide) (fun c1 => ?_) (fun c1 => ?_)
      · rw [if_pos c1] at h
        refine wk_iload C dX4_addSomeEdge_80 rfl ?_
        refine wk_iconst C (v := 1) dX4_addSomeEdge_82 (by decide) ?_
        refine wk_icmp_lt C (tgt := 96) dX4_addSomeEdge_83 (by decide) (fun c2 => ?_) (fun c2 => ?_)
        · rw [if_pos c2] at h
          refine wk_iconst C (v := 0) dX4_addSomeEdge_96 (by decide) ?_
          exact E _ _ _ _ _ _ (Nat.le_refl 0) (Nat.le_refl 0) dX4_addSomeEdge_97 rfl ⟨(0 : Int32), rfl, h, hW, hE⟩
        · rw [if_neg c2] at h
          refine wk_iload C dX4_addSomeEdge_86 rfl ?_
          refine wk_iconst C (v := 3) dX4_addSomeEdge_88 (by decide) ?_
          refine wk_icmp_gt C (tgt := 96) dX4_addSomeEdge_89 (by decide) (fun c3 => ?_) (fun c3 => ?_)
          · rw [if_pos c3] at h
            refine wk_iconst C (v := 0) dX4_addSomeEdge_96 (by decide) ?_
            exact E _ _ _ _ _ _ (Nat.le_refl 0) (Nat.le_refl 0) dX4_addSomeEdge_97 rfl ⟨(0 : Int32), rfl, h, hW, hE⟩
          · rw [if_neg c3] at h
            refine wk_iconst C (v := 1) dX4_addSomeEdge_92 (by decide) ?_
            refine wk_goto C (tgt := 97) dX4_addSomeEdge_93 (by decide) ?_
            exact E _ _ _ _ _ _ (Nat.le_refl 0) (Nat.le_refl 0) dX4_addSomeEdge_97 rfl ⟨(1 : Int32), rfl, h, hW, hE⟩
      · rw [if_neg c1] at h
        refine wk_aload_n C dX4_addSomeEdge_20 rfl rfl ?_
        refine wk_iload C dX4_addSomeEdge_21 rfl ?_
        refine wk_iconst C (v := 0) dX4_addSomeEdge_23 (by decide) ?_
        refine wk_callV C hR (As := [.int l5I, .int (0 : Int32)]) (cnt := 2) (tX3_at (l := l) hW hl0A h) rfl (wkGoodV (List.mem_of_getElem? (i := 2) rfl) (List.mem_of_getElem? (i := 3) rfl) (List.mem_of_getElem? (i := 4) rfl) (List.mem_of_getElem? (i := 5) rfl) hbX4_addSomeEdge_X3_at gdX3_at) (Nat.le_trans (by decide : 0 + 1 ≤ 1) hd) (by decide) hl0A.1 (fun cy => wAt_3 cy _ hl0A.2) rfl ⟨by decide, by decide, by decide +kernel⟩ rfl rfl (Nat.le_of_ble_eq_true rfl) (Nat.le_refl 0) (Nat.le_refl 0) dX4_addSomeEdge_24 (fun v' S5 hp => ?_)
        obtain ⟨v4, rfl, h, hWS5, hXS5⟩ := hp
        refine wk_iload_n C dX4_addSomeEdge_27 rfl rfl ?_
        refine wk_icmp_eq C (tgt := 42) dX4_addSomeEdge_28 (by decide) (fun c9 => ?_) (fun c9 => ?_)
        · rw [if_pos c9] at h
          exact wk_forget (lv' := [some (.ref l0A), some (.ref l1A), some (.int l2I), some (.int l3I), some (.int l4I), some (.int l5I)]) (wkLs.le ⟨rfl, rfl, rfl, rfl, rfl, rfl, trivial⟩) (ih.2 _ _ _ _ _ _ _ hWS5 (wkExt.tr hE hXS5) (hXS5 _ _ hl0A) (hXS5 _ _ hl1A) h)
        · rw [if_neg c9] at h
          refine wk_aload_n C dX4_addSomeEdge_31 rfl rfl ?_
          refine wk_iload C dX4_addSomeEdge_32 rfl ?_
          refine wk_iconst C (v := 1) dX4_addSomeEdge_34 (by decide) ?_
          refine wk_callV C hR (As := [.int l5I, .int (1 : Int32)]) (cnt := 2) (tX3_at (l := l) hWS5 (hXS5 _ _ hl0A) h) rfl (wkGoodV (List.mem_of_getElem? (i := 2) rfl) (List.mem_of_getElem? (i := 3) rfl) (List.mem_of_getElem? (i := 4) rfl) (List.mem_of_getElem? (i := 5) rfl) hbX4_addSomeEdge_X3_at gdX3_at) (Nat.le_trans (by decide : 0 + 1 ≤ 1) hd) (by decide) (hXS5 _ _ hl0A).1 (fun cy => wAt_3 cy _ (hXS5 _ _ hl0A).2) rfl ⟨by decide, by decide, by decide +kernel⟩ rfl rfl (Nat.le_of_ble_eq_true rfl) (Nat.le_refl 0) (Nat.le_refl 0) dX4_addSomeEdge_35 (fun v' S11 hp => ?_)
          obtain ⟨v10, rfl, h, hWS11, hXS11⟩ := hp
          refine wk_iload_n C dX4_addSomeEdge_38 rfl rfl ?_
          refine wk_icmp_ne C (tgt := 74) dX4_addSomeEdge_39 (by decide) (fun c15 => ?_) (fun c15 => ?_)
          · rw [if_neg c15] at h
            obtain ⟨x16, ex16, h⟩ := wkLt_some h
            refine wk_iinc C (lv' := [some (.ref l0A), some (.ref l1A), some (.int l2I), some (.int l3I), some (.int l4I), some (.int x16)]) dX4_addSomeEdge_74 rfl (by rw [ex16]; rfl) (by decide) rfl ?_
            refine wk_goto C (tgt := 11) dX4_addSomeEdge_77 (by decide) ?_
            exact wk_forget (lv' := [some (.ref l0A), some (.ref l1A), some (.int l2I), some (.int l3I), some (.int l4I), some (.int x16)]) (wkLs.le ⟨rfl, rfl, rfl, rfl, rfl, rfl, trivial⟩) (ih.1 _ _ _ _ _ _ _ hWS11 (wkExt.tr (wkExt.tr hE hXS5) hXS11) (hXS11 _ _ (hXS5 _ _ hl0A)) (hXS11 _ _ (hXS5 _ _ hl1A)) h)
          · rw [if_pos c15] at h
            exact wk_forget (lv' := [some (.ref l0A), some (.ref l1A), some (.int l2I), some (.int l3I), some (.int l4I), some (.int l5I)]) (wkLs.le ⟨rfl, rfl, rfl, rfl, rfl, rfl, trivial⟩) (ih.2 _ _ _ _ _ _ _ hWS11 (wkExt.tr (wkExt.tr hE hXS5) hXS11) (hXS11 _ _ (hXS5 _ _ hl0A)) (hXS11 _ _ (hXS5 _ _ hl1A)) h)
    · intro l0A l1A l2I l3I l4I l5I S hW hE hl0A hl1A h
      have h : rX4_addSomeEdge_b1 F (rX4_addSomeEdge_go F k') l0A l1A l2I l3I l4I l5I S Φ := by
        rw [rX4_addSomeEdge_go, if_neg (show ¬ (1 : Nat) = 0 by decide), if_pos (rfl : (1 : Nat) = 1)] at h
        exact h
      unfold rX4_addSomeEdge_b1 at h
      refine wk_iload C dX4_addSomeEdge_42 rfl ?_
      refine wk_if_ne C (tgt := 54) dX4_addSomeEdge_44 (by decide) (fun c17 => ?_) (fun c17 => ?_)
      · rw [if_neg c17] at h
        refine wk_iload C dX4_addSomeEdge_54 rfl ?_
        refine wk_iconst C (v := 3) dX4_addSomeEdge_56 (by decide) ?_
        refine wk_icmp_ge C (tgt := 71) dX4_addSomeEdge_57 (by decide) (fun c18 => ?_) (fun c18 => ?_)
        · rw [if_pos c18] at h
          obtain ⟨x19, ex19, h⟩ := wkLt_some h
          refine wk_iinc C (lv' := [some (.ref l0A), some (.ref l1A), some (.int l2I), some (.int l3I), some (.int x19), some (.int l5I)]) dX4_addSomeEdge_71 rfl (by rw [ex19]; rfl) (by decide) rfl ?_
          obtain ⟨x20, ex20, h⟩ := wkLt_some h
          refine wk_iinc C (lv' := [some (.ref l0A), some (.ref l1A), some (.int l2I), some (.int l3I), some (.int x19), some (.int x20)]) dX4_addSomeEdge_74 rfl (by rw [ex20]; rfl) (by decide) rfl ?_
          refine wk_goto C (tgt := 11) dX4_addSomeEdge_77 (by decide) ?_
          exact wk_forget (lv' := [some (.ref l0A), some (.ref l1A), some (.int l2I), some (.int l3I), some (.int x19), some (.int x20)]) (wkLs.le ⟨rfl, rfl, rfl, rfl, rfl, rfl, trivial⟩) (ih.1 _ _ _ _ _ _ _ hW hE hl0A hl1A h)
        · rw [if_neg c18] at h
          refine wk_aload_n C dX4_addSomeEdge_60 rfl rfl ?_
          refine wk_iload_n C dX4_addSomeEdge_61 rfl rfl ?_
          refine wk_iload C dX4_addSomeEdge_62 rfl ?_
          refine wk_iload C dX4_addSomeEdge_64 rfl ?_
          refine wk_iconst C (v := 1) dX4_addSomeEdge_66 (by decide) ?_
          refine wk_iadd C dX4_addSomeEdge_67 rfl ?_
          refine wk_callV C hR (As := [.int l3I, .int l4I, .int (l5I + (1 : Int32))]) (cnt := 3) (tX3_addTo (l := l) hW hl1A h) rfl (wkGoodV (List.mem_of_getElem? (i := 6) rfl) (List.mem_of_getElem? (i := 7) rfl) (List.mem_of_getElem? (i := 8) rfl) (List.mem_of_getElem? (i := 5) rfl) hbX4_addSomeEdge_X3_addTo gdX3_addTo) (Nat.le_trans (by decide : 0 + 1 ≤ 1) hd) (by decide) hl1A.1 (fun cy => wAt_3 cy _ hl1A.2) rfl ⟨by decide, by decide, by decide +kernel⟩ rfl rfl (Nat.le_of_ble_eq_true rfl) (Nat.le_refl 0) (Nat.le_refl 0) dX4_addSomeEdge_68 (fun v' S22 hp => ?_)
          obtain ⟨v21, rfl, h, hWS22, hXS22⟩ := hp
          obtain ⟨x26, ex26, h⟩ := wkLt_some h
          refine wk_iinc C (lv' := [some (.ref l0A), some (.ref l1A), some (.int l2I), some (.int l3I), some (.int x26), some (.int l5I)]) dX4_addSomeEdge_71 rfl (by rw [ex26]; rfl) (by decide) rfl ?_
          obtain ⟨x27, ex27, h⟩ := wkLt_some h
          refine wk_iinc C (lv' := [some (.ref l0A), some (.ref l1A), some (.int l2I), some (.int l3I), some (.int x26), some (.int x27)]) dX4_addSomeEdge_74 rfl (by rw [ex27]; rfl) (by decide) rfl ?_
          refine wk_goto C (tgt := 11) dX4_addSomeEdge_77 (by decide) ?_
          exact wk_forget (lv' := [some (.ref l0A), some (.ref l1A), some (.int l2I), some (.int l3I), some (.int x26), some (.int x27)]) (wkLs.le ⟨rfl, rfl, rfl, rfl, rfl, rfl, trivial⟩) (ih.1 _ _ _ _ _ _ _ hWS22 (wkExt.tr hE hXS22) (hXS22 _ _ hl0A) (hXS22 _ _ hl1A) h)
      · rw [if_pos c17] at h
        refine wk_aload_n C dX4_addSomeEdge_47 rfl rfl ?_
        refine wk_iconst C (v := 0) dX4_addSomeEdge_48 (by decide) ?_
        refine wk_iconst C (v := 0) dX4_addSomeEdge_49 (by decide) ?_
        refine wk_iconst C (v := 0) dX4_addSomeEdge_50 (by decide) ?_
        refine wk_callV C hR (As := [.int (0 : Int32), .int (0 : Int32), .int (0 : Int32)]) (cnt := 3) (tX3_addItem (l := l) hW hl1A h) rfl (wkGoodV (List.mem_of_getElem? (i := 9) rfl) (List.mem_of_getElem? (i := 10) rfl) (List.mem_of_getElem? (i := 11) rfl) (List.mem_of_getElem? (i := 5) rfl) hbX4_addSomeEdge_X3_addItem gdX3_addItem) (Nat.le_trans (by decide : 0 + 1 ≤ 1) hd) (by decide) hl1A.1 (fun cy => wAt_3 cy _ hl1A.2) rfl ⟨by decide, by decide, by decide +kernel⟩ rfl rfl (Nat.le_of_ble_eq_true rfl) (Nat.le_refl 0) (Nat.le_refl 0) dX4_addSomeEdge_51 (fun v' S29 hp => ?_)
        obtain ⟨v28, rfl, h, hWS29, hXS29⟩ := hp
        refine wk_iload C dX4_addSomeEdge_54 rfl ?_
        refine wk_iconst C (v := 3) dX4_addSomeEdge_56 (by decide) ?_
        refine wk_icmp_ge C (tgt := 71) dX4_addSomeEdge_57 (by decide) (fun c33 => ?_) (fun c33 => ?_)
        · rw [if_pos c33] at h
          obtain ⟨x34, ex34, h⟩ := wkLt_some h
          refine wk_iinc C (lv' := [some (.ref l0A), some (.ref l1A), some (.int l2I), some (.int l3I), some (.int x34), some (.int l5I)]) dX4_addSomeEdge_71 rfl (by rw [ex34]; rfl) (by decide) rfl ?_
          obtain ⟨x35, ex35, h⟩ := wkLt_some h
          refine wk_iinc C (lv' := [some (.ref l0A), some (.ref l1A), some (.int l2I), some (.int l3I), some (.int x34), some (.int x35)]) dX4_addSomeEdge_74 rfl (by rw [ex35]; rfl) (by decide) rfl ?_
          refine wk_goto C (tgt := 11) dX4_addSomeEdge_77 (by decide) ?_
          exact wk_forget (lv' := [some (.ref l0A), some (.ref l1A), some (.int l2I), some (.int l3I), some (.int x34), some (.int x35)]) (wkLs.le ⟨rfl, rfl, rfl, rfl, rfl, rfl, trivial⟩) (ih.1 _ _ _ _ _ _ _ hWS29 (wkExt.tr hE hXS29) (hXS29 _ _ hl0A) (hXS29 _ _ hl1A) h)
        · rw [if_neg c33] at h
          refine wk_aload_n C dX4_addSomeEdge_60 rfl rfl ?_
          refine wk_iload_n C dX4_addSomeEdge_61 rfl rfl ?_
          refine wk_iload C dX4_addSomeEdge_62 rfl ?_
          refine wk_iload C dX4_addSomeEdge_64 rfl ?_
          refine wk_iconst C (v := 1) dX4_addSomeEdge_66 (by decide) ?_
          refine wk_iadd C dX4_addSomeEdge_67 rfl ?_
          refine wk_callV C hR (As := [.int l3I, .int l4I, .int (l5I + (1 : Int32))]) (cnt := 3) (tX3_addTo (l := l) hWS29 (hXS29 _ _ hl1A) h) rfl (wkGoodV (List.mem_of_getElem? (i := 6) rfl) (List.mem_of_getElem? (i := 7) rfl) (List.mem_of_getElem? (i := 8) rfl) (List.mem_of_getElem? (i := 5) rfl) hbX4_addSomeEdge_X3_addTo gdX3_addTo) (Nat.le_trans (by decide : 0 + 1 ≤ 1) hd) (by decide) (hXS29 _ _ hl1A).1 (fun cy => wAt_3 cy _ (hXS29 _ _ hl1A).2) rfl ⟨by decide, by decide, by decide +kernel⟩ rfl rfl (Nat.le_of_ble_eq_true rfl) (Nat.le_refl 0) (Nat.le_refl 0) dX4_addSomeEdge_68 (fun v' S37 hp => ?_)
          obtain ⟨v36, rfl, h, hWS37, hXS37⟩ := hp
          obtain ⟨x41, ex41, h⟩ := wkLt_some h
          refine wk_iinc C (lv' := [some (.ref l0A), some (.ref l1A), some (.int l2I), some (.int l3I), some (.int x41), some (.int l5I)]) dX4_addSomeEdge_71 rfl (by rw [ex41]; rfl) (by decide) rfl ?_
          obtain ⟨x42, ex42, h⟩ := wkLt_some h
          refine wk_iinc C (lv' := [some (.ref l0A), some (.ref l1A), some (.int l2I), some (.int l3I), some (.int x41), some (.int x42)]) dX4_addSomeEdge_74 rfl (by rw [ex42]; rfl) (by decide) rfl ?_
          refine wk_goto C (tgt := 11) dX4_addSomeEdge_77 (by decide) ?_
          exact wk_forget (lv' := [some (.ref l0A), some (.ref l1A), some (.int l2I), some (.int l3I), some (.int x41), some (.int x42)]) (wkLs.le ⟨rfl, rfl, rfl, rfl, rfl, rfl, trivial⟩) (ih.1 _ _ _ _ _ _ _ hWS37 (wkExt.tr (wkExt.tr hE hXS29) hXS37) (hXS37 _ _ (hXS29 _ _ hl0A)) (hXS37 _ _ (hXS29 _ _ hl1A)) h)
set_option maxHeartbeats 4000000 in
set_option maxRecDepth 100000 in
theorem tX4_addSomeEdge {l : Launch} {g : wkG} {F : Nat}  {S : wPS} {l0A : Nat} {l1A : Nat} {l2I : Int32} {Φ : (Int32 → wPS → Prop)} (hW : wkWF S) (hl0A : wkIs S l0A 3) (hl1A : wkIs S l1A 3) (h : rX4_addSomeEdge F l0A l1A l2I S Φ) : wkMet l g yX4_addSomeEdge wvX4_addSomeEdge 1 0 0 [.ref l0A, .ref l1A, .int l2I] S (fun v' S'' => ∃ v : Int32, v' = some (.int v) ∧ Φ v S'' ∧ wkWF S'' ∧ wkExt S S'') := by
  refine wkMet_of (ret := (some .boolean)) (by decide) rfl (Nat.le_of_ble_eq_true rfl) (fun X hg C hR E => ?_)
  subst hg
  have hE : wkExt S S := wkExt.rf
  have hd : 1 ≤ 1 := Nat.le_refl _
  show wkGo l X 6 0 0 0 S [some (.ref l0A), some (.ref l1A), some (.int l2I), none, none, none] []
  have ih := tX4_addSomeEdge_go (F := F) C hR hd E F
  have h : rX4_addSomeEdge_s F (rX4_addSomeEdge_go F F) l0A l1A l2I S Φ := h
  unfold rX4_addSomeEdge_s at h
  refine wk_aload_n C dX4_addSomeEdge_0 rfl rfl ?_
  refine wk_get C (v := .int (gEntry_itemCount S l1A)) huX4_addSomeEdge_3 hl1A.1 (fun cy => wAt_3 cy _ hl1A.2) rfl 6 (by decide) (List.mem_of_getElem? (i := 1) rfl) rfl rfl dX4_addSomeEdge_1 ?_
  obtain ⟨x43, ex43, h⟩ := wkLt_some h
  refine wk_topi ex43 ?_
  refine wk_istore_n C (lv' := [some (.ref l0A), some (.ref l1A), some (.int l2I), some (.int x43), none, none]) dX4_addSomeEdge_4 rfl (by decide) rfl ?_
  refine wk_iconst C (v := 0) dX4_addSomeEdge_5 (by decide) ?_
  refine wk_istore C (lv' := [some (.ref l0A), some (.ref l1A), some (.int l2I), some (.int x43), some (.int (0 : Int32)), none]) dX4_addSomeEdge_6 (by decide) rfl ?_
  refine wk_iconst C (v := 0) dX4_addSomeEdge_8 (by decide) ?_
  refine wk_istore C (lv' := [some (.ref l0A), some (.ref l1A), some (.int l2I), some (.int x43), some (.int (0 : Int32)), some (.int (0 : Int32))]) dX4_addSomeEdge_9 (by decide) rfl ?_
  exact wk_forget (lv' := [some (.ref l0A), some (.ref l1A), some (.int l2I), some (.int x43), some (.int (0 : Int32)), some (.int (0 : Int32))]) (wkLs.le ⟨rfl, rfl, rfl, rfl, rfl, rfl, trivial⟩) (ih.1 _ _ _ _ _ _ _ hW hE hl0A hl1A h)
def wvX5_times : List Cond := .code yX5_times cX5_times 3 (some .int) :: (([.fieldLink RX5 23 "Witnessworks$Entry" "itemCount" "I", .methodLink RX5 79 yX3_at, .instanceMethod yX3_at, .selects RX3 yX3_at yX3_at, .initialized RX3] : List Cond) ++ ((wsX30) ++ (wvX3_at)))
theorem huX5_times_3 : ∀ w ∈ u_ws RX3 TX3 17, w ∈ wvX5_times := fun w h => List.mem_cons_of_mem _ (List.mem_append_right _ (List.mem_append_left _ h))
theorem hbX5_times_X3_at : ∀ w ∈ wvX3_at, w ∈ wvX5_times := fun w h => List.mem_cons_of_mem _ (List.mem_append_right _ (List.mem_append_right _ h))
theorem gdX5_times : ∀ w ∈ wvX5_times, wkGd w := wkGdC rfl (wkGdA (wkGdL (by decide +kernel)) (wkGdA gdX3 gdX3_at))
def rX5_times (F : Nat) (l0A : Nat) (l1I : Int32) (l2I : Int32) (S : wPS) (Φ : (Int32 → wPS → Prop)) : Prop :=
  if (gEntry_itemCount S l0A) ≤ l1I then (Φ (1 : Int32) S) else (rX3_at F l0A l1I l2I S fun v2 S3 => Φ v2 S3)
set_option maxHeartbeats 4000000 in
set_option maxRecDepth 100000 in
theorem tX5_times {l : Launch} {g : wkG} {F : Nat}  {S : wPS} {l0A : Nat} {l1I : Int32} {l2I : Int32} {Φ : (Int32 → wPS → Prop)} (hW : wkWF S) (hl0A : wkIs S l0A 3) (h : rX5_times F l0A l1I l2I S Φ) : wkMet l g yX5_times wvX5_times 1 0 0 [.ref l0A, .int l1I, .int l2I] S (fun v' S'' => ∃ v : Int32, v' = some (.int v) ∧ Φ v S'' ∧ wkWF S'' ∧ wkExt S S'') := by
  refine wkMet_of (ret := (some .int)) (by decide) rfl (Nat.le_of_ble_eq_true rfl) (fun X hg C hR E => ?_)
  subst hg
  have hE : wkExt S S := wkExt.rf
  have hd : 1 ≤ 1 := Nat.le_refl _
  show wkGo l X 3 0 0 0 S [some (.ref l0A), some (.int l1I), some (.int l2I)] []
  unfold rX5_times at h
  refine wk_iload_n C dX5_times_0 rfl rfl ?_
  refine wk_aload_n C dX5_times_1 rfl rfl ?_
  refine wk_get C (v := .int (gEntry_itemCount S l0A)) huX5_times_3 hl0A.1 (fun cy => wAt_3 cy _ hl0A.2) rfl 6 (by decide) (List.mem_of_getElem? (i := 1) rfl) rfl rfl dX5_times_2 ?_
  refine wk_icmp_ge C (tgt := 17) dX5_times_5 (by decide) (fun c1 => ?_) (fun c1 => ?_)
  · rw [if_pos c1] at h
    refine wk_iconst C (v := 1) dX5_times_17 (by decide) ?_
    exact E _ _ _ _ _ _ (Nat.le_refl 0) (Nat.le_refl 0) dX5_times_18 ⟨(1 : Int32), rfl, h, hW, hE⟩
  · rw [if_neg c1] at h
    refine wk_aload_n C dX5_times_8 rfl rfl ?_
    refine wk_iload_n C dX5_times_9 rfl rfl ?_
    refine wk_iload_n C dX5_times_10 rfl rfl ?_
    refine wk_callV C hR (As := [.int l1I, .int l2I]) (cnt := 2) (tX3_at (l := l) hW hl0A h) rfl (wkGoodV (List.mem_of_getElem? (i := 2) rfl) (List.mem_of_getElem? (i := 3) rfl) (List.mem_of_getElem? (i := 4) rfl) (List.mem_of_getElem? (i := 5) rfl) hbX5_times_X3_at gdX3_at) (Nat.le_trans (by decide : 0 + 1 ≤ 1) hd) (by decide) hl0A.1 (fun cy => wAt_3 cy _ hl0A.2) rfl ⟨by decide, by decide, by decide +kernel⟩ rfl rfl (Nat.le_of_ble_eq_true rfl) (Nat.le_refl 0) (Nat.le_refl 0) dX5_times_11 (fun v' S3 hp => ?_)
    obtain ⟨v2, rfl, h, hWS3, hXS3⟩ := hp
    refine wk_goto C (tgt := 18) dX5_times_14 (by decide) ?_
    exact E _ _ _ _ _ _ (Nat.le_refl 0) (Nat.le_refl 0) dX5_times_18 ⟨v2, rfl, h, hWS3, (wkExt.tr hE hXS3)⟩
def wvX5_limitOf : List Cond := .code yX5_limitOf cX5_limitOf 2 (some .int) :: (([.fieldLink RX5 23 "Witnessworks$Entry" "itemCount" "I", .fieldLink RX5 44 "Witnessworks$Entry" "boundNow" "I", .methodLink RX5 79 yX3_at, .instanceMethod yX3_at, .selects RX3 yX3_at yX3_at, .initialized RX3] : List Cond) ++ ((wsX30) ++ (wvX3_at)))
theorem huX5_limitOf_3 : ∀ w ∈ u_ws RX3 TX3 17, w ∈ wvX5_limitOf := fun w h => List.mem_cons_of_mem _ (List.mem_append_right _ (List.mem_append_left _ h))
theorem hbX5_limitOf_X3_at : ∀ w ∈ wvX3_at, w ∈ wvX5_limitOf := fun w h => List.mem_cons_of_mem _ (List.mem_append_right _ (List.mem_append_right _ h))
theorem gdX5_limitOf : ∀ w ∈ wvX5_limitOf, wkGd w := wkGdC rfl (wkGdA (wkGdL (by decide +kernel)) (wkGdA gdX3 gdX3_at))
def rX5_limitOf (F : Nat) (l0A : Nat) (l1I : Int32) (S : wPS) (Φ : (Int32 → wPS → Prop)) : Prop :=
  if (gEntry_itemCount S l0A) ≤ l1I then (Φ (gEntry_boundNow S l0A) S) else (rX3_at F l0A l1I (4 : Int32) S fun v2 S3 => Φ v2 S3)
set_option maxHeartbeats 4000000 in
set_option maxRecDepth 100000 in
theorem tX5_limitOf {l : Launch} {g : wkG} {F : Nat}  {S : wPS} {l0A : Nat} {l1I : Int32} {Φ : (Int32 → wPS → Prop)} (hW : wkWF S) (hl0A : wkIs S l0A 3) (h : rX5_limitOf F l0A l1I S Φ) : wkMet l g yX5_limitOf wvX5_limitOf 1 0 0 [.ref l0A, .int l1I] S (fun v' S'' => ∃ v : Int32, v' = some (.int v) ∧ Φ v S'' ∧ wkWF S'' ∧ wkExt S S'') := by
  refine wkMet_of (ret := (some .int)) (by decide) rfl (Nat.le_of_ble_eq_true rfl) (fun X hg C hR E => ?_)
  subst hg
  have hE : wkExt S S := wkExt.rf
  have hd : 1 ≤ 1 := Nat.le_refl _
  show wkGo l X 2 0 0 0 S [some (.ref l0A), some (.int l1I)] []
  unfold rX5_limitOf at h
  refine wk_iload_n C dX5_limitOf_0 rfl rfl ?_
  refine wk_aload_n C dX5_limitOf_1 rfl rfl ?_
  refine wk_get C (v := .int (gEntry_itemCount S l0A)) huX5_limitOf_3 hl0A.1 (fun cy => wAt_3 cy _ hl0A.2) rfl 6 (by decide) (List.mem_of_getElem? (i := 1) rfl) rfl rfl dX5_limitOf_2 ?_
  refine wk_icmp_ge C (tgt := 17) dX5_limitOf_5 (by decide) (fun c1 => ?_) (fun c1 => ?_)
  · rw [if_pos c1] at h
    refine wk_aload_n C dX5_limitOf_17 rfl rfl ?_
    refine wk_get C (v := .int (gEntry_boundNow S l0A)) huX5_limitOf_3 hl0A.1 (fun cy => wAt_3 cy _ hl0A.2) rfl 8 (by decide) (List.mem_of_getElem? (i := 2) rfl) rfl rfl dX5_limitOf_18 ?_
    exact E _ _ _ _ _ _ (Nat.le_refl 0) (Nat.le_refl 0) dX5_limitOf_21 ⟨(gEntry_boundNow S l0A), rfl, h, hW, hE⟩
  · rw [if_neg c1] at h
    refine wk_aload_n C dX5_limitOf_8 rfl rfl ?_
    refine wk_iload_n C dX5_limitOf_9 rfl rfl ?_
    refine wk_iconst C (v := 4) dX5_limitOf_10 (by decide) ?_
    refine wk_callV C hR (As := [.int l1I, .int (4 : Int32)]) (cnt := 2) (tX3_at (l := l) hW hl0A h) rfl (wkGoodV (List.mem_of_getElem? (i := 3) rfl) (List.mem_of_getElem? (i := 4) rfl) (List.mem_of_getElem? (i := 5) rfl) (List.mem_of_getElem? (i := 6) rfl) hbX5_limitOf_X3_at gdX3_at) (Nat.le_trans (by decide : 0 + 1 ≤ 1) hd) (by decide) hl0A.1 (fun cy => wAt_3 cy _ hl0A.2) rfl ⟨by decide, by decide, by decide +kernel⟩ rfl rfl (Nat.le_of_ble_eq_true rfl) (Nat.le_refl 0) (Nat.le_refl 0) dX5_limitOf_11 (fun v' S3 hp => ?_)
    obtain ⟨v2, rfl, h, hWS3, hXS3⟩ := hp
    refine wk_goto C (tgt := 21) dX5_limitOf_14 (by decide) ?_
    exact E _ _ _ _ _ _ (Nat.le_refl 0) (Nat.le_refl 0) dX5_limitOf_21 ⟨v2, rfl, h, hWS3, (wkExt.tr hE hXS3)⟩
def wvX5_begin : List Cond := .code yX5_begin cX5_begin 3 none :: (([.fieldLink RX5 86 "Witnessworks$Inequalities" "columns" "I", .fieldLink RX5 20 "Witnessworks$Inequalities" "columnLabels" "[I", .fieldLink RX5 83 "Witnessworks$Inequalities" "rows" "I", .fieldLink RX5 16 "Witnessworks$Inequalities" "rowLabels" "[I", .fieldLink RX5 13 "Witnessworks$Inequalities" "table" "[[J", .fieldLink RX5 47 "Witnessworks$Inequalities" "lower" "J", .fieldLink RX5 111 "Witnessworks$Inequalities" "locked" "I"] : List Cond) ++ ((wsX50) ++ ([])))
theorem huX5_begin_5 : ∀ w ∈ u_ws RX5 TX5 7, w ∈ wvX5_begin := fun w h => List.mem_cons_of_mem _ (List.mem_append_right _ (List.mem_append_left _ h))
theorem gdX5_begin : ∀ w ∈ wvX5_begin, wkGd w := wkGdC rfl (wkGdA (wkGdL (by decide +kernel)) (wkGdA gdX5 (fun _ h => absurd h List.not_mem_nil)))
def rX5_begin_b0 (F : Nat) (rec : Nat → Nat → Int32 → Int32 → wPS → (Unit → wPS → Prop) → Prop) (l0A : Nat) (l1I : Int32) (S : wPS) (Φ : (Unit → wPS → Prop)) : Prop :=
  if (gInequalities_columns S l0A) ≤ l1I then (rec 1 l0A (0 : Int32) 0 S Φ) else (¬ (l1I < 0 ∨ S.len (wkAd (gInequalities_columnLabels S l0A)) ≤ (l1I).toNatClampNeg) ∧ wkLt (wuI S (wkAd (gInequalities_columnLabels S l0A)) l1I l1I) fun S3 => wkLt (l1I + (1 : Int32)) fun x4 => rec 0 l0A x4 0 S3 Φ)
def rX5_begin_b1 (F : Nat) (rec : Nat → Nat → Int32 → Int32 → wPS → (Unit → wPS → Prop) → Prop) (l0A : Nat) (l1I : Int32) (S : wPS) (Φ : (Unit → wPS → Prop)) : Prop :=
  if (gInequalities_rows S l0A) ≤ l1I then (Φ () S) else (¬ (l1I < 0 ∨ S.len (wkAd (gInequalities_rowLabels S l0A)) ≤ (l1I).toNatClampNeg) ∧ wkLt (wuI S (wkAd (gInequalities_rowLabels S l0A)) l1I ((gInequalities_columns S l0A) + l1I)) fun S7 => rec 2 l0A l1I (0 : Int32) S7 Φ)
def rX5_begin_b2 (F : Nat) (rec : Nat → Nat → Int32 → Int32 → wPS → (Unit → wPS → Prop) → Prop) (l0A : Nat) (l1I : Int32) (l2I : Int32) (S : wPS) (Φ : (Unit → wPS → Prop)) : Prop :=
  if (gInequalities_columns S l0A) < l2I then (wkLt (l1I + (1 : Int32)) fun x9 => rec 1 l0A x9 0 S Φ) else (¬ ((gInequalities_rows S l0A) < 0 ∨ S.len (wkAd (gInequalities_table S l0A)) ≤ ((gInequalities_rows S l0A)).toNatClampNeg) ∧ ¬ (l2I < 0 ∨ S.len (wkAd (S.rA (wkAd (gInequalities_table S l0A)) ((gInequalities_rows S l0A)).toNatClampNeg)) ≤ (l2I).toNatClampNeg) ∧ ¬ (l1I < 0 ∨ S.len (wkAd (gInequalities_table S l0A)) ≤ (l1I).toNatClampNeg) ∧ ¬ (l2I < 0 ∨ S.len (wkAd (S.rA (wkAd (gInequalities_table S l0A)) (l1I).toNatClampNeg)) ≤ (l2I).toNatClampNeg) ∧ ¬ (l2I < 0 ∨ S.len (wkAd (S.rA (wkAd (gInequalities_table S l0A)) ((gInequalities_rows S l0A)).toNatClampNeg)) ≤ (l2I).toNatClampNeg) ∧ wkLt (wuJ S (wkAd (S.rA (wkAd (gInequalities_table S l0A)) ((gInequalities_rows S l0A)).toNatClampNeg)) l2I ((S.rJ (wkAd (S.rA (wkAd (gInequalities_table S l0A)) ((gInequalities_rows S l0A)).toNatClampNeg)) (l2I).toNatClampNeg) + (S.rJ (wkAd (S.rA (wkAd (gInequalities_table S l0A)) (l1I).toNatClampNeg)) (l2I).toNatClampNeg))) fun S17 => wkLt (l2I + (1 : Int32)) fun x18 => rec 2 l0A l1I x18 S17 Φ)
def rX5_begin_go (F : Nat) : Nat → Nat → Nat → Int32 → Int32 → wPS → (Unit → wPS → Prop) → Prop
  | 0, _, _, _, _, _, _ => False
  | k' + 1, lab, l0A, l1I, l2I, S, Φ => if lab = 0 then rX5_begin_b0 F (rX5_begin_go F k') l0A l1I S Φ else if lab = 1 then rX5_begin_b1 F (rX5_begin_go F k') l0A l1I S Φ else if lab = 2 then rX5_begin_b2 F (rX5_begin_go F k') l0A l1I l2I S Φ else False
def rX5_begin_s (F : Nat) (rec : Nat → Nat → Int32 → Int32 → wPS → (Unit → wPS → Prop) → Prop) (l0A : Nat) (S : wPS) (Φ : (Unit → wPS → Prop)) : Prop :=
  wkLt (wu_Inequalities_lower S l0A (1 : Int64)) fun S19 => wkLt (wu_Inequalities_locked S19 l0A (0 : Int32)) fun S20 => rec 0 l0A (0 : Int32) 0 S20 Φ
def rX5_begin (F : Nat) (l0A : Nat) (S : wPS) (Φ : (Unit → wPS → Prop)) : Prop := rX5_begin_s F (rX5_begin_go F F) l0A S Φ
set_option maxHeartbeats 4000000 in
set_option maxRecDepth 100000 in
theorem tX5_begin_go {l : Launch} {X : wkX} {d F : Nat} {S0 : wPS} {Φ : (Unit → wPS → Prop)} (C : wkC X cX5_begin RX5 3 wvX5_begin) (hR : wkRm X d 0 0) (hd : 0 ≤ d) (E : wkEnd l X cX5_begin 3 none 0 0 (fun v' S'' => ∃ v : Unit, v' = none ∧ Φ v S'' ∧ wkWF S'' ∧ wkExt S0 S'')) : ∀ k' : Nat, (∀ (l0A : Nat) (l1I : Int32) (S : wPS), wkWF S → wkExt S0 S → wkIs S l0A 5 → rX5_begin_go F k' 0 l0A l1I 0 S Φ → wkGo l X 3 0 0 12 S [some (.ref l0A), some (.int l1I), none] []) ∧ (∀ (l0A : Nat) (l1I : Int32) (S : wPS), wkWF S → wkExt S0 S → wkIs S l0A 5 → rX5_begin_go F k' 1 l0A l1I 0 S Φ → wkGo l X 3 0 0 35 S [some (.ref l0A), some (.int l1I), none] []) ∧ (∀ (l0A : Nat) (l1I : Int32) (l2I : Int32) (S : wPS), wkWF S → wkExt S0 S → wkIs S l0A 5 → rX5_begin_go F k' 2 l0A l1I l2I S Φ → wkGo l X 3 0 0 57 S [some (.ref l0A), some (.int l1I), some (.int l2I)] []) := by
  intro k'
  induction k' with
  | zero => exact ⟨fun l0A l1I S hW hE hl0A h => h.elim, fun l0A l1I S hW hE hl0A h => h.elim, fun l0A l1I l2I S hW hE hl0A h => h.elim⟩
  | succ k' ih =>
    refine ⟨?_, ?_, ?_⟩
    · intro l0A l1I S hW hE hl0A h
      have h : rX5_begin_b0 F (rX5_begin_go F k') l0A l1I S Φ := by
        rw [rX5_begin_go, if_pos (rfl : (0 : Nat) = 0)] at h
        exact h
      unfold rX5_begin_b0 at h
      refine wk_iload_n C dX5_begin_12 rfl rfl ?_
      refine wk_aload_n C dX5_begin_13 rfl rfl ?_
      refine wk_get C (v := .int (gInequalities_columns S l0A)) huX5_begin_5 hl0A.1 (fun cy => wAt_5 cy _ hl0A.2) rfl 5 (by decide) (List.mem_of_getElem? (i := 1) rfl) rfl rfl dX5_begin_14 ?_
      refine wk_icmp_ge C (tgt := 33) dX5_begin_17 (by decide) (fun c1 => ?_) (fun c1 => ?_)
      · rw [if_pos c1] at h
        refine wk_iconst C (v := 0) dX5_begin_33 (by decide) ?_
        refine wk_istore_n C (lv' := [some (.ref l0A), some (.int (0 : Int32)), none]) dX5_begin_34 rfl (by decide) rfl ?_
        exact wk_forget (lv' := [some (.ref l0A), some (.int (0 : Int32)), none]) (wkLs.le ⟨rfl, rfl, trivial⟩) (ih.2.1 _ _ _ hW hE hl0A h)
      · rw [if_neg c1] at h
        refine wk_aload_n C dX5_begin_20 rfl rfl ?_
        refine wk_get C huX5_begin_5 hl0A.1 (fun cy => wAt_5 cy _ hl0A.2) rfl 2 (by decide) (List.mem_of_getElem? (i := 2) rfl) rfl (congrArg some (congrArg va_rf (wf_Inequalities_columnLabels hW hl0A).1)) dX5_begin_21 ?_
        refine wk_iload_n C dX5_begin_24 rfl rfl ?_
        refine wk_iload_n C dX5_begin_25 rfl rfl ?_
        obtain ⟨i2, h⟩ := h
        obtain ⟨S3, eS3, h⟩ := wkLt_some h
        refine wk_iast C (wf_Inequalities_columnLabels hW hl0A).2.1 (wf_Inequalities_columnLabels hW hl0A).2.2 i2 eS3.symm dX5_begin_26 ?_
        have hWS3 : wkWF S3 := by rw [eS3]; exact hW
        have hXS3 : wkExt S S3 := by rw [eS3]; exact wkExt.rf
        obtain ⟨x4, ex4, h⟩ := wkLt_some h
        refine wk_iinc C (lv' := [some (.ref l0A), some (.int x4), none]) dX5_begin_27 rfl (by rw [ex4]; rfl) (by decide) rfl ?_
        refine wk_goto C (tgt := 12) dX5_begin_30 (by decide) ?_
        exact wk_forget (lv' := [some (.ref l0A), some (.int x4), none]) (wkLs.le ⟨rfl, rfl, trivial⟩) (ih.1 _ _ _ hWS3 (wkExt.tr hE hXS3) (hXS3 _ _ hl0A) h)
    · intro l0A l1I S hW hE hl0A h
      have h : rX5_begin_b1 F (rX5_begin_go F k') l0A l1I S Φ := by
        rw [rX5_begin_go, if_neg (show ¬ (1 : Nat) = 0 by decide), if_pos (rfl : (1 : Nat) = 1)] at h
        exact h
      unfold rX5_begin_b1 at h
      refine wk_iload_n C dX5_begin_35 rfl rfl ?_
      refine wk_aload_n C dX5_begin_36 rfl rfl ?_
      refine wk_get C (v := .int (gInequalities_rows S l0A)) huX5_begin_5 hl0A.1 (fun cy => wAt_5 cy _ hl0A.2) rfl 4 (by decide) (List.mem_of_getElem? (i := 3) rfl) rfl rfl dX5_begin_37 ?_
      refine wk_icmp_ge C (tgt := 99) dX5_begin_40 (by decide) (fun c5 => ?_) (fun c5 => ?_)
      · rw [if_pos c5] at h
        exact E _ _ _ _ _ (Nat.le_refl 0) (Nat.le_refl 0) dX5_begin_99 ⟨(), rfl, h, hW, hE⟩
      · rw [if_neg c5] at h
        refine wk_aload_n C dX5_begin_43 rfl rfl ?_
        refine wk_get C huX5_begin_5 hl0A.1 (fun cy => wAt_5 cy _ hl0A.2) rfl 1 (by decide) (List.mem_of_getElem? (i := 4) rfl) rfl (congrArg some (congrArg va_rf (wf_Inequalities_rowLabels hW hl0A).1)) dX5_begin_44 ?_
        refine wk_iload_n C dX5_begin_47 rfl rfl ?_
        refine wk_aload_n C dX5_begin_48 rfl rfl ?_
        refine wk_get C (v := .int (gInequalities_columns S l0A)) huX5_begin_5 hl0A.1 (fun cy => wAt_5 cy _ hl0A.2) rfl 5 (by decide) (List.mem_of_getElem? (i := 1) rfl) rfl rfl dX5_begin_49 ?_
        refine wk_iload_n C dX5_begin_52 rfl rfl ?_
        refine wk_iadd C dX5_begin_53 rfl ?_
        obtain ⟨i6, h⟩ := h
        obtain ⟨S7, eS7, h⟩ := wkLt_some h
        refine wk_iast C (wf_Inequalities_rowLabels hW hl0A).2.1 (wf_Inequalities_rowLabels hW hl0A).2.2 i6 eS7.symm dX5_begin_54 ?_
        have hWS7 : wkWF S7 := by rw [eS7]; exact hW
        have hXS7 : wkExt S S7 := by rw [eS7]; exact wkExt.rf
        refine wk_iconst C (v := 0) dX5_begin_55 (by decide) ?_
        refine wk_istore_n C (lv' := [some (.ref l0A), some (.int l1I), some (.int (0 : Int32))]) dX5_begin_56 rfl (by decide) rfl ?_
        exact wk_forget (lv' := [some (.ref l0A), some (.int l1I), some (.int (0 : Int32))]) (wkLs.le ⟨rfl, rfl, rfl, trivial⟩) (ih.2.2 _ _ _ _ hWS7 (wkExt.tr hE hXS7) (hXS7 _ _ hl0A) h)
    · intro l0A l1I l2I S hW hE hl0A h
      have h : rX5_begin_b2 F (rX5_begin_go F k') l0A l1I l2I S Φ := by
        rw [rX5_begin_go, if_neg (show ¬ (2 : Nat) = 0 by decide), if_neg (show ¬ (2 : Nat) = 1 by decide), if_pos (rfl : (2 : Nat) = 2)] at h
        exact h
      unfold rX5_begin_b2 at h
      refine wk_iload_n C dX5_begin_57 rfl rfl ?_
      refine wk_aload_n C dX5_begin_58 rfl rfl ?_
      refine wk_get C (v := .int (gInequalities_columns S l0A)) huX5_begin_5 hl0A.1 (fun cy => wAt_5 cy _ hl0A.2) rfl 5 (by decide) (List.mem_of_getElem? (i := 1) rfl) rfl rfl dX5_begin_59 ?_
      refine wk_icmp_gt C (tgt := 93) dX5_begin_62 (by decide) (fun c8 => ?_) (fun c8 => ?_)
      · rw [if_pos c8] at h
        obtain ⟨x9, ex9, h⟩ := wkLt_some h
        refine wk_iinc C (lv' := [some (.ref l0A), some (.int x9), some (.int l2I)]) dX5_begin_93 rfl (by rw [ex9]; rfl) (by decide) rfl ?_
        refine wk_goto C (tgt := 35) dX5_begin_96 (by decide) ?_
        exact wk_forget (lv' := [some (.ref l0A), some (.int x9), none]) (wkLs.le ⟨rfl, rfl, trivial⟩) (ih.2.1 _ _ _ hW hE hl0A h)
      · rw [if_neg c8] at h
        refine wk_aload_n C dX5_begin_65 rfl rfl ?_
        refine wk_get C huX5_begin_5 hl0A.1 (fun cy => wAt_5 cy _ hl0A.2) rfl 0 (by decide) (List.mem_of_getElem? (i := 5) rfl) rfl (congrArg some (congrArg va_rf (wf_Inequalities_table hW hl0A).1)) dX5_begin_66 ?_
        refine wk_aload_n C dX5_begin_69 rfl rfl ?_
        refine wk_get C (v := .int (gInequalities_rows S l0A)) huX5_begin_5 hl0A.1 (fun cy => wAt_5 cy _ hl0A.2) rfl 4 (by decide) (List.mem_of_getElem? (i := 3) rfl) rfl rfl dX5_begin_70 ?_
        obtain ⟨i10, h⟩ := h
        have w11 := wf_R_J hW (wf_Inequalities_table hW hl0A).2 (Nat.not_le.mp fun q => i10 (Or.inr q))
        refine wk_aald_J C (wf_Inequalities_table hW hl0A).2.1 (wf_Inequalities_table hW hl0A).2.2 i10 w11.1 dX5_begin_73 ?_
        refine wk_iload_n C dX5_begin_74 rfl rfl ?_
        refine wk_dup2 C dX5_begin_75 rfl rfl ?_
        obtain ⟨i12, h⟩ := h
        refine wk_lald C w11.2.1 w11.2.2 i12 rfl dX5_begin_76 ?_
        refine wk_aload_n C dX5_begin_77 rfl rfl ?_
        refine wk_get C huX5_begin_5 hl0A.1 (fun cy => wAt_5 cy _ hl0A.2) rfl 0 (by decide) (List.mem_of_getElem? (i := 5) rfl) rfl (congrArg some (congrArg va_rf (wf_Inequalities_table hW hl0A).1)) dX5_begin_78 ?_
        refine wk_iload_n C dX5_begin_81 rfl rfl ?_
        obtain ⟨i13, h⟩ := h
        have w14 := wf_R_J hW (wf_Inequalities_table hW hl0A).2 (Nat.not_le.mp fun q => i13 (Or.inr q))
        refine wk_aald_J C (wf_Inequalities_table hW hl0A).2.1 (wf_Inequalities_table hW hl0A).2.2 i13 w14.1 dX5_begin_82 ?_
        refine wk_iload_n C dX5_begin_83 rfl rfl ?_
        obtain ⟨i15, h⟩ := h
        refine wk_lald C w14.2.1 w14.2.2 i15 rfl dX5_begin_84 ?_
        refine wk_ladd C dX5_begin_85 rfl ?_
        obtain ⟨i16, h⟩ := h
        obtain ⟨S17, eS17, h⟩ := wkLt_some h
        refine wk_last C w11.2.1 w11.2.2 i16 eS17.symm dX5_begin_86 ?_
        have hWS17 : wkWF S17 := by rw [eS17]; exact hW
        have hXS17 : wkExt S S17 := by rw [eS17]; exact wkExt.rf
        obtain ⟨x18, ex18, h⟩ := wkLt_some h
        refine wk_iinc C (lv' := [some (.ref l0A), some (.int l1I), some (.int x18)]) dX5_begin_87 rfl (by rw [ex18]; rfl) (by decide) rfl ?_
        refine wk_goto C (tgt := 57) dX5_begin_90 (by decide) ?_
        exact wk_forget (lv' := [some (.ref l0A), some (.int l1I), some (.int x18)]) (wkLs.le ⟨rfl, rfl, rfl, trivial⟩) (ih.2.2 _ _ _ _ hWS17 (wkExt.tr hE hXS17) (hXS17 _ _ hl0A) h)
set_option maxHeartbeats 4000000 in
set_option maxRecDepth 100000 in
theorem tX5_begin {l : Launch} {g : wkG} {F : Nat}  {S : wPS} {l0A : Nat} {Φ : (Unit → wPS → Prop)} (hW : wkWF S) (hl0A : wkIs S l0A 5) (h : rX5_begin F l0A S Φ) : wkMet l g yX5_begin wvX5_begin 0 0 0 [.ref l0A] S (fun v' S'' => ∃ v : Unit, v' = none ∧ Φ v S'' ∧ wkWF S'' ∧ wkExt S S'') := by
  refine wkMet_of (ret := none) (by decide) rfl (Nat.le_of_ble_eq_true rfl) (fun X hg C hR E => ?_)
  subst hg
  have hE : wkExt S S := wkExt.rf
  have hd : 0 ≤ 0 := Nat.le_refl _
  show wkGo l X 3 0 0 0 S [some (.ref l0A), none, none] []
  have ih := tX5_begin_go (F := F) C hR hd E F
  have h : rX5_begin_s F (rX5_begin_go F F) l0A S Φ := h
  unfold rX5_begin_s at h
  refine wk_aload_n C dX5_begin_0 rfl rfl ?_
  refine wk_lconst C (v := 1) dX5_begin_1 (by decide) ?_
  obtain ⟨S19, eS19, h⟩ := wkLt_some h
  refine wk_put C (S' := S19) huX5_begin_5 hl0A.1 (fun cy => wAt_5 cy _ hl0A.2) rfl 6 (by decide) (List.mem_of_getElem? (i := 6) rfl) rfl tyX5_ok nmX5 rfl (ty := .long) rfl rfl rfl (by show 6 < 7; decide) (fun cy b => by rw [eS19]; exact wSt_5_6 cy _ hl0A.2 _ b) (by rw [eS19]) dX5_begin_2 ?_
  have hWS19 : wkWF S19 := by rw [eS19]; exact hW
  have hXS19 : wkExt S S19 := by rw [eS19]; exact wkExt.rf
  refine wk_aload_n C dX5_begin_5 rfl rfl ?_
  refine wk_iconst C (v := 0) dX5_begin_6 (by decide) ?_
  obtain ⟨S20, eS20, h⟩ := wkLt_some h
  refine wk_put C (S' := S20) huX5_begin_5 (hXS19 _ _ hl0A).1 (fun cy => wAt_5 cy _ (hXS19 _ _ hl0A).2) rfl 3 (by decide) (List.mem_of_getElem? (i := 7) rfl) rfl tyX5_ok nmX5 rfl (ty := .int) rfl rfl rfl (by show 3 < 7; decide) (fun cy b => by rw [eS20]; exact wSt_5_3 cy _ (hXS19 _ _ hl0A).2 _ b) (by rw [eS20]) dX5_begin_7 ?_
  have hWS20 : wkWF S20 := by rw [eS20]; exact hWS19
  have hXS20 : wkExt S19 S20 := by rw [eS20]; exact wkExt.rf
  refine wk_iconst C (v := 0) dX5_begin_10 (by decide) ?_
  refine wk_istore_n C (lv' := [some (.ref l0A), some (.int (0 : Int32)), none]) dX5_begin_11 rfl (by decide) rfl ?_
  exact wk_forget (lv' := [some (.ref l0A), some (.int (0 : Int32)), none]) (wkLs.le ⟨rfl, rfl, trivial⟩) (ih.1 _ _ _ hWS20 (wkExt.tr (wkExt.tr hE hXS19) hXS20) (hXS20 _ _ (hXS19 _ _ hl0A)) h)
