def wvX4_addSomeEdge : List Cond := .code yX4_addSomeEdge cX4_addSomeEdge 6 (some .boolean) :: (([.fieldLink RX4 219 "Witnessworks$Entry" "itemCount" "I", .methodLink RX4 222 yX3_at, .instanceMethod yX3_at, .selects RX3 yX3_at yX3_at, .initialized RX3, .methodLink RX4 269 yX3_addTo, .instanceMethod yX3_addTo, .selects RX3 yX3_addTo yX3_addTo, .methodLink RX4 255 yX3_addItem, .instanceMethod yX3_addItem, .selects RX3 yX3_addItem yX3_addItem] : List Cond) ++ ((wsX30) ++ (wvX3_at ++ (wvX3_addTo ++ (wvX3_addItem)))))
theorem huX4_addSomeEdge_3 : ∀ w ∈ u_ws RX3 TX3 17, w ∈ wvX4_addSomeEdge := fun w h => List.mem_cons_of_mem _ (List.mem_append_right _ (List.mem_append_left _ h))
theorem hbX4_addSomeEdge_X3_at : ∀ w ∈ wvX3_at, w ∈ wvX4_addSomeEdge := fun w h => List.mem_cons_of_mem _ (List.mem_append_right _ (List.mem_append_right _ (List.mem_append_left _ h)))
theorem hbX4_addSomeEdge_X3_addTo : ∀ w ∈ wvX3_addTo, w ∈ wvX4_addSomeEdge := fun w h => List.mem_cons_of_mem _ (List.mem_append_right _ (List.mem_append_right _ (List.mem_append_right _ (List.mem_append_left _ h))))
theorem hbX4_addSomeEdge_X3_addItem : ∀ w ∈ wvX3_addItem, w ∈ wvX4_addSomeEdge := fun w h => List.mem_cons_of_mem _ (List.mem_append_right _ (List.mem_append_right _ (List.mem_append_right _ (List.mem_append_right _ h))))
theorem gdX4_addSomeEdge : ∀ w ∈ wvX4_addSomeEdge, wkGd w := wkGdC rfl (wkGdA (wkGdL (by decide +kernel)) (wkGdA gdX3 (wkGdA gdX3_at (wkGdA gdX3_addTo gdX3_addItem))))
def rX4_addSomeEdge_b0 (F : Nat) (rec : Nat → Nat → Nat → Int32 → Int32 → Int32 → Int32 → wPS → (Int32 → wPS → Prop) → Prop) (l0A : Nat) (l1A : Nat) (l2I : Int32) (l3I : Int32) (l4I : Int32) (l5I : Int32) (S : wPS) (Φ : (Int32 → wPS → Prop)) : Prop :=
  if (gEntry_itemCount S l0A) ≤ l5I then (if l4I < (1 : Int32) then (Φ (0 : Int32) S) else (if (3 : Int32) < l4I then (Φ (0 : Int32) S) else (Φ (1 : Int32) S))) else (rX3_at F l0A l5I (0 : Int32) S fun v4 S5 => if v4 = l2I then (rec 1 l0A l1A l2I l3I l4I l5I S5 Φ) else (rX3_at F l0A l5I (1 : Int32) S5 fun v10 S11 => if v10 = l2I then (rec 1 l0A l1A l2I l3I l4I l5I S11 Φ) else (wkLt (l5I + (1 : Int32)) fun x16 => rec 0 l0A l1A l2I l3I l4I x16 S11 Φ)))
def rX4_addSomeEdge_b1 (F : Nat) (rec : Nat → Nat → Nat → Int32 → Int32 → Int32 → Int32 → wPS → (Int32 → wPS → Prop) → Prop) (l0A : Nat) (l1A : Nat) (l2I : Int32) (l3I : Int32) (l4I : Int32) (l5I : Int32) (S : wPS) (Φ : (Int32 → wPS → Prop)) : Prop :=
  if l4I = 0 then (rX3_addItem F l1A (0 : Int32) (0 : Int32) (0 : Int32) S fun v28 S29 => if (3 : Int32) ≤ l4I then (wkLt (l4I + (1 : Int32)) fun x34 => wkLt (l5I + (1 : Int32)) fun x35 => rec 0 l0A l1A l2I l3I x34 x35 S29 Φ) else (rX3_addTo F l1A l3I l4I (l5I + (1 : Int32)) S29 fun v36 S37 => wkLt (l4I + (1 : Int32)) fun x41 => wkLt (l5I + (1 : Int32)) fun x42 => rec 0 l0A l1A l2I l3I x41 x42 S37 Φ)) else (if (3 : Int32) ≤ l4I then (wkLt (l4I + (1 : Int32)) fun x19 => wkLt (l5I + (1 : Int32)) fun x20 => rec 0 l0A l1A l2I l3I x19 x20 S Φ) else (rX3_addTo F l1A l3I l4I (l5I + (1 : Int32)) S fun v21 S22 => wkLt (l4I + (1 : Int32)) fun x26 => wkLt (l5I + (1 : Int32)) fun x27 => rec 0 l0A l1A l2I l3I x26 x27 S22 Φ))
def rX4_addSomeEdge_go (F : Nat) : Nat → Nat → Nat → Nat → Int32 → Int32 → Int32 → Int32 → wPS → (Int32 → wPS → Prop) → Prop
  | 0, _, _, _, _, _, _, _, _, _ => False
  | k' + 1, lab, l0A, l1A, l2I, l3I, l4I, l5I, S, Φ => if lab = 0 then rX4_addSomeEdge_b0 F (rX4_addSomeEdge_go F k') l0A l1A l2I l3I l4I l5I S Φ else if lab = 1 then rX4_addSomeEdge_b1 F (rX4_addSomeEdge_go F k') l0A l1A l2I l3I l4I l5I S Φ else False
def rX4_addSomeEdge_s (F : Nat) (rec : Nat → Nat → Nat → Int32 → Int32 → Int32 → Int32 → wPS → (Int32 → wPS → Prop) → Prop) (l0A : Nat) (l1A : Nat) (l2I : Int32) (S : wPS) (Φ : (Int32 → wPS → Prop)) : Prop :=
  wkLt ((gEntry_itemCount S l1A)) fun x43 => rec 0 l0A l1A l2I x43 (0 : Int32) (0 : Int32) S Φ
def rX4_addSomeEdge (F : Nat) (l0A : Nat) (l1A : Nat) (l2I : Int32) (S : wPS) (Φ : (Int32 → wPS → Prop)) : Prop := rX4_addSomeEdge_s F (rX4_addSomeEdge_go F F) l0A l1A l2I S Φ
set_option maxHeartbeats 4000000 in
set_option maxRecDepth 100000 in
theorem tX4_addSomeEdge_go {l : Launch} {X : wkX} {d F : Nat} {S0 : wPS} {Φ : (Int32 → wPS → Prop)} (C : wkC X cX4_addSomeEdge RX4 6 wvX4_addSomeEdge) (hR : wkRm X d 0 0) (hd : 1 ≤ d) (E : wkEnd l X cX4_addSomeEdge 6 (some .boolean) 0 0 (fun v' S'' => ∃ v : Int32, v' = some (.int v) ∧ Φ v S'' ∧ wkWF S'' ∧ wkExt S0 S'')) : ∀ k' : Nat, (∀ (l0A : Nat) (l1A : Nat) (l2I : Int32) (l3I : Int32) (l4I : Int32) (l5I : Int32) (S : wPS), wkWF S → wkExt S0 S → wkIs S l0A 3 → wkIs S l1A 3 → rX4_addSomeEdge_go F k' 0 l0A l1A l2I l3I l4I l5I S Φ → wkGo l X 6 0 0 11 S [some (.ref l0A), some (.ref l1A), some (.int l2I), some (.int l3I), some (.int l4I), some (.int l5I)] []) ∧ (∀ (l0A : Nat) (l1A : Nat) (l2I : Int32) (l3I : Int32) (l4I : Int32) (l5I : Int32) (S : wPS), wkWF S → wkExt S0 S → wkIs S l0A 3 → wkIs S l1A 3 → rX4_addSomeEdge_go F k' 1 l0A l1A l2I l3I l4I l5I S Φ → wkGo l X 6 0 0 42 S [some (.ref l0A), some (.ref l1A), some (.int l2I), some (.int l3I), some (.int l4I), some (.int l5I)] []) := by
  intro k'
  induction k' with
  | zero => exact ⟨fun l0A l1A l2I l3I l4I l5I S hW hE hl0A hl1A h => h.elim, fun l0A l1A l2I l3I l4I l5I S hW hE hl0A hl1A h => h.elim⟩
  | succ k' ih =>
    refine ⟨?_, ?_⟩
    · intro l0A l1A l2I l3I l4I l5I S hW hE hl0A hl1A h
      have h : rX4_addSomeEdge_b0 F (rX4_addSomeEdge_go F k') l0A l1A l2I l3I l4I l5I S Φ := by
        rw [rX4_addSomeEdge_go, if_pos (rfl : (0 : Nat) = 0)] at h
        exact h
      unfold rX4_addSomeEdge_b0 at h
      refine wk_iload C dX4_addSomeEdge_11 rfl ?_
      refine wk_aload_n C dX4_addSomeEdge_13 rfl rfl ?_
      refine wk_get C (v := .int (gEntry_itemCount S l0A)) huX4_addSomeEdge_3 hl0A.1 (fun cy => wAt_3 cy _ hl0A.2) rfl 6 (by decide) (List.mem_of_getElem? (i := 1) rfl) rfl rfl dX4_addSomeEdge_14 ?_
      refine wk_icmp_ge C (tgt := 80) dX4_addSomeEdge_17 (by decide) (fun c1 => ?_) (fun c1 => ?_)
      · rw [if_pos c1] at h
        refine wk_iload C dX4_addSomeEdge_80 rfl ?_
        refine wk_iconst C (v := 1) dX4_addSomeEdge_82 (by decide) ?_
        refine wk_icmp_lt C (tgt := 96) dX4_addSomeEdge_83 (by decide) (fun c2 => ?_) (fun c2 => ?_)
        · rw [if_pos c2] at h
          refine wk_iconst C (v := 0) dX4_addSomeEdge_96 (by decide) ?_
          exact E _ _ _ _ _ _ (Nat.le_refl 0) (Nat.le_refl 0) dX4_addSomeEdge_97 rfl ⟨(0 : Int32), rfl, h, hW, hE⟩
        · rw [if_neg c2] at h
          refine wk_iload C dX4_addSomeEdge_86 rfl ?_
          refine wk_iconst C (v := 3) dX4_addSomeEdge_88 (by decide) ?_
          refine wk_icmp_gt C (tgt := 96) dX4_addSomeEdge_89 (by decide) (fun c3 => ?_) (fun c3 => ?_)
          · rw [if_pos c3] at h
            refine wk_iconst C (v := 0) dX4_addSomeEdge_96 (by decide) ?_
            exact E _ _ _ _ _ _ (Nat.le_refl 0) (Nat.le_refl 0) dX4_addSomeEdge_97 rfl ⟨(0 : Int32), rfl, h, hW, hE⟩
          · rw [if_neg c3] at h
            refine wk_iconst C (v := 1) dX4_addSomeEdge_92 (by decide) ?_
            refine wk_goto C (tgt := 97) dX4_addSomeEdge_93 (by decide) ?_
            exact E _ _ _ _ _ _ (Nat.le_refl 0) (Nat.le_refl 0) dX4_addSomeEdge_97 rfl ⟨(1 : Int32), rfl, h, hW, hE⟩
      · rw [if_neg c1] at h
        refine wk_aload_n C dX4_addSomeEdge_20 rfl rfl ?_
        refine wk_iload C dX4_addSomeEdge_21 rfl ?_
        refine wk_iconst C (v := 0) dX4_addSomeEdge_23 (by decide) ?_
        refine wk_callV C hR (As := [.int l5I, .int (0 : Int32)]) (cnt := 2) (tX3_at (l := l) hW hl0A h) rfl (wkGoodV (List.mem_of_getElem? (i := 2) rfl) (List.mem_of_getElem? (i := 3) rfl) (List.mem_of_getElem? (i := 4) rfl) (List.mem_of_getElem? (i := 5) rfl) hbX4_addSomeEdge_X3_at gdX3_at) (Nat.le_trans (by decide : 0 + 1 ≤ 1) hd) (by decide) hl0A.1 (fun cy => wAt_3 cy _ hl0A.2) rfl ⟨by decide, by decide, by decide +kernel⟩ rfl rfl (Nat.le_of_ble_eq_true rfl) (Nat.le_refl 0) (Nat.le_refl 0) dX4_addSomeEdge_24 (fun v' S5 hp => ?_)
        obtain ⟨v4, rfl, h, hWS5, hXS5⟩ := hp
        refine wk_iload_n C dX4_addSomeEdge_27 rfl rfl ?_
        refine wk_icmp_eq C (tgt := 42) dX4_addSomeEdge_28 (by decide) (fun c9 => ?_) (fun c9 => ?_)
        · rw [if_pos c9] at h
          exact wk_forget (lv' := [some (.ref l0A), some (.ref l1A), some (.int l2I), some (.int l3I), some (.int l4I), some (.int l5I)]) (wkLs.le ⟨rfl, rfl, rfl, rfl, rfl, rfl, trivial⟩) (ih.2 _ _ _ _ _ _ _ hWS5 (wkExt.tr hE hXS5) (hXS5 _ _ hl0A) (hXS5 _ _ hl1A) h)
        · rw [if_neg c9] at h
          refine wk_aload_n C dX4_addSomeEdge_31 rfl rfl ?_
          refine wk_iload C dX4_addSomeEdge_32 rfl ?_
          refine wk_iconst C (v := 1) dX4_addSomeEdge_34 (by decide) ?_
          refine wk_callV C hR (As := [.int l5I, .int (1 : Int32)]) (cnt := 2) (tX3_at (l := l) hWS5 (hXS5 _ _ hl0A) h) rfl (wkGoodV (List.mem_of_getElem? (i := 2) rfl) (List.mem_of_getElem? (i := 3) rfl) (List.mem_of_getElem? (i := 4) rfl) (List.mem_of_getElem? (i := 5) rfl) hbX4_addSomeEdge_X3_at gdX3_at) (Nat.le_trans (by decide : 0 + 1 ≤ 1) hd) (by decide) (hXS5 _ _ hl0A).1 (fun cy => wAt_3 cy _ (hXS5 _ _ hl0A).2) rfl ⟨by decide, by decide, by decide +kernel⟩ rfl rfl (Nat.le_of_ble_eq_true rfl) (Nat.le_refl 0) (Nat.le_refl 0) dX4_addSomeEdge_35 (fun v' S11 hp => ?_)
          obtain ⟨v10, rfl, h, hWS11, hXS11⟩ := hp
          refine wk_iload_n C dX4_addSomeEdge_38 rfl rfl ?_
          refine wk_icmp_ne C (tgt := 74) dX4_addSomeEdge_39 (by decide) (fun c15 => ?_) (fun c15 => ?_)
          · rw [if_neg c15] at h
            obtain ⟨x16, ex16, h⟩ := wkLt_some h
            refine wk_iinc C (lv' := [some (.ref l0A), some (.ref l1A), some (.int l2I), some (.int l3I), some (.int l4I), some (.int x16)]) dX4_addSomeEdge_74 rfl (by rw [ex16]; rfl) (by decide) rfl ?_
            refine wk_goto C (tgt := 11) dX4_addSomeEdge_77 (by decide) ?_
            exact wk_forget (lv' := [some (.ref l0A), some (.ref l1A), some (.int l2I), some (.int l3I), some (.int l4I), some (.int x16)]) (wkLs.le ⟨rfl, rfl, rfl, rfl, rfl, rfl, trivial⟩) (ih.1 _ _ _ _ _ _ _ hWS11 (wkExt.tr (wkExt.tr hE hXS5) hXS11) (hXS11 _ _ (hXS5 _ _ hl0A)) (hXS11 _ _ (hXS5 _ _ hl1A)) h)
          · rw [if_pos c15] at h
            exact wk_forget (lv' := [some (.ref l0A), some (.ref l1A), some (.int l2I), some (.int l3I), some (.int l4I), some (.int l5I)]) (wkLs.le ⟨rfl, rfl, rfl, rfl, rfl, rfl, trivial⟩) (ih.2 _ _ _ _ _ _ _ hWS11 (wkExt.tr (wkExt.tr hE hXS5) hXS11) (hXS11 _ _ (hXS5 _ _ hl0A)) (hXS11 _ _ (hXS5 _ _ hl1A)) h)
    · intro l0A l1A l2I l3I l4I l5I S hW hE hl0A hl1A h
      have h : rX4_addSomeEdge_b1 F (rX4_addSomeEdge_go F k') l0A l1A l2I l3I l4I l5I S Φ := by
        rw [rX4_addSomeEdge_go, if_neg (show ¬ (1 : Nat) = 0 by decide), if_pos (rfl : (1 : Nat) = 1)] at h
        exact h
      unfold rX4_addSomeEdge_b1 at h
      refine wk_iload C dX4_addSomeEdge_42 rfl ?_
      refine wk_if_ne C (tgt := 54) dX4_addSomeEdge_44 (by decide) (fun c17 => ?_) (fun c17 => ?_)
      · rw [if_neg c17] at h
        refine wk_iload C dX4_addSomeEdge_54 rfl ?_
        refine wk_iconst C (v := 3) dX4_addSomeEdge_56 (by decide) ?_
        refine wk_icmp_ge C (tgt := 71) dX4_addSomeEdge_57 (by decide) (fun c18 => ?_) (fun c18 => ?_)
        · rw [if_pos c18] at h
          obtain ⟨x19, ex19, h⟩ := wkLt_some h
          refine wk_iinc C (lv' := [some (.ref l0A), some (.ref l1A), some (.int l2I), some (.int l3I), some (.int x19), some (.int l5I)]) dX4_addSomeEdge_71 rfl (by rw [ex19]; rfl) (by decide) rfl ?_
          obtain ⟨x20, ex20, h⟩ := wkLt_some h
          refine wk_iinc C (lv' := [some (.ref l0A), some (.ref l1A), some (.int l2I), some (.int l3I), some (.int x19), some (.int x20)]) dX4_addSomeEdge_74 rfl (by rw [ex20]; rfl) (by decide) rfl ?_
          refine wk_goto C (tgt := 11) dX4_addSomeEdge_77 (by decide) ?_
          exact wk_forget (lv' := [some (.ref l0A), some (.ref l1A), some (.int l2I), some (.int l3I), some (.int x19), some (.int x20)]) (wkLs.le ⟨rfl, rfl, rfl, rfl, rfl, rfl, trivial⟩) (ih.1 _ _ _ _ _ _ _ hW hE hl0A hl1A h)
        · rw [if_neg c18] at h
          refine wk_aload_n C dX4_addSomeEdge_60 rfl rfl ?_
          refine wk_iload_n C dX4_addSomeEdge_61 rfl rfl ?_
          refine wk_iload C dX4_addSomeEdge_62 rfl ?_
          refine wk_iload C dX4_addSomeEdge_64 rfl ?_
          refine wk_iconst C (v := 1) dX4_addSomeEdge_66 (by decide) ?_
          refine wk_iadd C dX4_addSomeEdge_67 rfl ?_
          refine wk_callV C hR (As := [.int l3I, .int l4I, .int (l5I + (1 : Int32))]) (cnt := 3) (tX3_addTo (l := l) hW hl1A h) rfl (wkGoodV (List.mem_of_getElem? (i := 6) rfl) (List.mem_of_getElem? (i := 7) rfl) (List.mem_of_getElem? (i := 8) rfl) (List.mem_of_getElem? (i := 5) rfl) hbX4_addSomeEdge_X3_addTo gdX3_addTo) (Nat.le_trans (by decide : 0 + 1 ≤ 1) hd) (by decide) hl1A.1 (fun cy => wAt_3 cy _ hl1A.2) rfl ⟨by decide, by decide, by decide +kernel⟩ rfl rfl (Nat.le_of_ble_eq_true rfl) (Nat.le_refl 0) (Nat.le_refl 0) dX4_addSomeEdge_68 (fun v' S22 hp => ?_)
          obtain ⟨v21, rfl, h, hWS22, hXS22⟩ := hp
          obtain ⟨x26, ex26, h⟩ := wkLt_some h
          refine wk_iinc C (lv' := [some (.ref l0A), some (.ref l1A), some (.int l2I), some (.int l3I), some (.int x26), some (.int l5I)]) dX4_addSomeEdge_71 rfl (by rw [ex26]; rfl) (by decide) rfl ?_
          obtain ⟨x27, ex27, h⟩ := wkLt_some h
          refine wk_iinc C (lv' := [some (.ref l0A), some (.ref l1A), some (.int l2I), some (.int l3I), some (.int x26), some (.int x27)]) dX4_addSomeEdge_74 rfl (by rw [ex27]; rfl) (by decide) rfl ?_
          refine wk_goto C (tgt := 11) dX4_addSomeEdge_77 (by decide) ?_
          exact wk_forget (lv' := [some (.ref l0A), some (.ref l1A), some (.int l2I), some (.int l3I), some (.int x26), some (.int x27)]) (wkLs.le ⟨rfl, rfl, rfl, rfl, rfl, rfl, trivial⟩) (ih.1 _ _ _ _ _ _ _ hWS22 (wkExt.tr hE hXS22) (hXS22 _ _ hl0A) (hXS22 _ _ hl1A) h)
      · rw [if_pos c17] at h
        refine wk_aload_n C dX4_addSomeEdge_47 rfl rfl ?_
        refine wk_iconst C (v := 0) dX4_addSomeEdge_48 (by decide) ?_
        refine wk_iconst C (v := 0) dX4_addSomeEdge_49 (by decide) ?_
        refine wk_iconst C (v := 0) dX4_addSomeEdge_50 (by decide) ?_
        refine wk_callV C hR (As := [.int (0 : Int32), .int (0 : Int32), .int (0 : Int32)]) (cnt := 3) (tX3_addItem (l := l) hW hl1A h) rfl (wkGoodV (List.mem_of_getElem? (i := 9) rfl) (List.mem_of_getElem? (i := 10) rfl) (List.mem_of_getElem? (i := 11) rfl) (List.mem_of_getElem? (i := 5) rfl) hbX4_addSomeEdge_X3_addItem gdX3_addItem) (Nat.le_trans (by decide : 0 + 1 ≤ 1) hd) (by decide) hl1A.1 (fun cy => wAt_3 cy _ hl1A.2) rfl ⟨by decide, by decide, by decide +kernel⟩ rfl rfl (Nat.le_of_ble_eq_true rfl) (Nat.le_refl 0) (Nat.le_refl 0) dX4_addSomeEdge_51 (fun v' S29 hp => ?_)
        obtain ⟨v28, rfl, h, hWS29, hXS29⟩ := hp
        refine wk_iload C dX4_addSomeEdge_54 rfl ?_
        refine wk_iconst C (v := 3) dX4_addSomeEdge_56 (by decide) ?_
        refine wk_icmp_ge C (tgt := 71) dX4_addSomeEdge_57 (by decide) (fun c33 => ?_) (fun c33 => ?_)
        · rw [if_pos c33] at h
          obtain ⟨x34, ex34, h⟩ := wkLt_some h
          refine wk_iinc C (lv' := [some (.ref l0A), some (.ref l1A), some (.int l2I), some (.int l3I), some (.int x34), some (.int l5I)]) dX4_addSomeEdge_71 rfl (by rw [ex34]; rfl) (by decide) rfl ?_
          obtain ⟨x35, ex35, h⟩ := wkLt_some h
          refine wk_iinc C (lv' := [some (.ref l0A), some (.ref l1A), some (.int l2I), some (.int l3I), some (.int x34), some (.int x35)]) dX4_addSomeEdge_74 rfl (by rw [ex35]; rfl) (by decide) rfl ?_
          refine wk_goto C (tgt := 11) dX4_addSomeEdge_77 (by decide) ?_
          exact wk_forget (lv' := [some (.ref l0A), some (.ref l1A), some (.int l2I), some (.int l3I), some (.int x34), some (.int x35)]) (wkLs.le ⟨rfl, rfl, rfl, rfl, rfl, rfl, trivial⟩) (ih.1 _ _ _ _ _ _ _ hWS29 (wkExt.tr hE hXS29) (hXS29 _ _ hl0A) (hXS29 _ _ hl1A) h)
        · rw [if_neg c33] at h
          refine wk_aload_n C dX4_addSomeEdge_60 rfl rfl ?_
          refine wk_iload_n C dX4_addSomeEdge_61 rfl rfl ?_
          refine wk_iload C dX4_addSomeEdge_62 rfl ?_
          refine wk_iload C dX4_addSomeEdge_64 rfl ?_
          refine wk_iconst C (v := 1) dX4_addSomeEdge_66 (by decide) ?_
          refine wk_iadd C dX4_addSomeEdge_67 rfl ?_
          refine wk_callV C hR (As := [.int l3I, .int l4I, .int (l5I + (1 : Int32))]) (cnt := 3) (tX3_addTo (l := l) hWS29 (hXS29 _ _ hl1A) h) rfl (wkGoodV (List.mem_of_getElem? (i := 6) rfl) (List.mem_of_getElem? (i := 7) rfl) (List.mem_of_getElem? (i := 8) rfl) (List.mem_of_getElem? (i := 5) rfl) hbX4_addSomeEdge_X3_addTo gdX3_addTo) (Nat.le_trans (by decide : 0 + 1 ≤ 1) hd) (by decide) (hXS29 _ _ hl1A).1 (fun cy => wAt_3 cy _ (hXS29 _ _ hl1A).2) rfl ⟨by decide, by decide, by decide +kernel⟩ rfl rfl (Nat.le_of_ble_eq_true rfl) (Nat.le_refl 0) (Nat.le_refl 0) dX4_addSomeEdge_68 (fun v' S37 hp => ?_)
          obtain ⟨v36, rfl, h, hWS37, hXS37⟩ := hp
          obtain ⟨x41, ex41, h⟩ := wkLt_some h
          refine wk_iinc C (lv' := [some (.ref l0A), some (.ref l1A), some (.int l2I), some (.int l3I), some (.int x41), some (.int l5I)]) dX4_addSomeEdge_71 rfl (by rw [ex41]; rfl) (by decide) rfl ?_
          obtain ⟨x42, ex42, h⟩ := wkLt_some h
          refine wk_iinc C (lv' := [some (.ref l0A), some (.ref l1A), some (.int l2I), some (.int l3I), some (.int x41), some (.int x42)]) dX4_addSomeEdge_74 rfl (by rw [ex42]; rfl) (by decide) rfl ?_
          refine wk_goto C (tgt := 11) dX4_addSomeEdge_77 (by decide) ?_
          exact wk_forget (lv' := [some (.ref l0A), some (.ref l1A), some (.int l2I), some (.int l3I), some (.int x41), some (.int x42)]) (wkLs.le ⟨rfl, rfl, rfl, rfl, rfl, rfl, trivial⟩) (ih.1 _ _ _ _ _ _ _ hWS37 (wkExt.tr (wkExt.tr hE hXS29) hXS37) (hXS37 _ _ (hXS29 _ _ hl0A)) (hXS37 _ _ (hXS29 _ _ hl1A)) h)
set_option maxHeartbeats 4000000 in
set_option maxRecDepth 100000 in
theorem tX4_addSomeEdge {l : Launch} {g : wkG} {F : Nat}  {S : wPS} {l0A : Nat} {l1A : Nat} {l2I : Int32} {Φ : (Int32 → wPS → Prop)} (hW : wkWF S) (hl0A : wkIs S l0A 3) (hl1A : wkIs S l1A 3) (h : rX4_addSomeEdge F l0A l1A l2I S Φ) : wkMet l g yX4_addSomeEdge wvX4_addSomeEdge 1 0 0 [.ref l0A, .ref l1A, .int l2I] S (fun v' S'' => ∃ v : Int32, v' = some (.int v) ∧ Φ v S'' ∧ wkWF S'' ∧ wkExt S S'') := by
  refine wkMet_of (ret := (some .boolean)) (by decide) rfl (Nat.le_of_ble_eq_true rfl) (fun X hg C hR E => ?_)
  subst hg
  have hE : wkExt S S := wkExt.rf
  have hd : 1 ≤ 1 := Nat.le_refl _
  show wkGo l X 6 0 0 0 S [some (.ref l0A), some (.ref l1A), some (.int l2I), none, none, none] []
  have ih := tX4_addSomeEdge_go (F := F) C hR hd E F
  have h : rX4_addSomeEdge_s F (rX4_addSomeEdge_go F F) l0A l1A l2I S Φ := h
  unfold rX4_addSomeEdge_s at h
  refine wk_aload_n C dX4_addSomeEdge_0 rfl rfl ?_
  refine wk_get C (v := .int (gEntry_itemCount S l1A)) huX4_addSomeEdge_3 hl1A.1 (fun cy => wAt_3 cy _ hl1A.2) rfl 6 (by decide) (List.mem_of_getElem? (i := 1) rfl) rfl rfl dX4_addSomeEdge_1 ?_
  obtain ⟨x43, ex43, h⟩ := wkLt_some h
  refine wk_topi ex43 ?_
  refine wk_istore_n C (lv' := [some (.ref l0A), some (.ref l1A), some (.int l2I), some (.int x43), none, none]) dX4_addSomeEdge_4 rfl (by decide) rfl ?_
  refine wk_iconst C (v := 0) dX4_addSomeEdge_5 (by decide) ?_
  refine wk_istore C (lv' := [some (.ref l0A), some (.ref l1A), some (.int l2I), some (.int x43), some (.int (0 : Int32)), none]) dX4_addSomeEdge_6 (by decide) rfl ?_
  refine wk_iconst C (v := 0) dX4_addSomeEdge_8 (by decide) ?_
  refine wk_istore C (lv' := [some (.ref l0A), some (.ref l1A), some (.int l2I), some (.int x43), some (.int (0 : Int32)), some (.int (0 : Int32))]) dX4_addSomeEdge_9 (by decide) rfl ?_
  exact wk_forget (lv' := [some (.ref l0A), some (.ref l1A), some (.int l2I), some (.int x43), some (.int (0 : Int32)), some (.int (0 : Int32))]) (wkLs.le ⟨rfl, rfl, rfl, rfl, rfl, rfl, trivial⟩) (ih.1 _ _ _ _ _ _ _ hW hE hl0A hl1A h)
def wvX5_init : List Cond := .code yX5_init cX5_init 1 none :: (([.methodLink RX5 3 objectInit, .instanceMethod objectInit, .code objectInit ⟨#[0xb1]⟩ 1 none, .classLink RX5 11 "[[J", .arrayClass .long, .fieldLink RX5 13 "Witnessworks$Inequalities" "table" "[[J", .arrayClass .int, .fieldLink RX5 16 "Witnessworks$Inequalities" "rowLabels" "[I", .fieldLink RX5 20 "Witnessworks$Inequalities" "columnLabels" "[I"] : List Cond) ++ ((wsX50) ++ ([])))
theorem huX5_init_5 : ∀ w ∈ u_ws RX5 TX5 7, w ∈ wvX5_init := fun w h => List.mem_cons_of_mem _ (List.mem_append_right _ (List.mem_append_left _ h))
theorem gdX5_init : ∀ w ∈ wvX5_init, wkGd w := wkGdC rfl (wkGdA (wkGdL (by decide +kernel)) (wkGdA gdX5 (fun _ h => absurd h List.not_mem_nil)))
def rX5_init (F : Nat) (k n : Nat) (l0A : Nat) (S : wPS) (Φ : (Unit → wPS → Prop)) : Prop :=
  ¬ (14 : Int32) < 0 ∧ ¬ (18 : Int32) < 0 ∧ ((14 : Int32)).toNatClampNeg * 4 ≤ 536870912 ∧ ((18 : Int32)).toNatClampNeg * 8 ≤ 536870912 ∧ 0 + (1 + ((14 : Int32)).toNatClampNeg) ≤ k ∧ 0 + (((14 : Int32)).toNatClampNeg + ((14 : Int32)).toNatClampNeg * ((18 : Int32)).toNatClampNeg) ≤ n ∧ ∀ (q2 : Nat) (r3 : Nat → Nat), (∀ i j : Nat, i < ((14 : Int32)).toNatClampNeg → j < ((14 : Int32)).toNatClampNeg → r3 i = r3 j → i = j) → (∀ i : Nat, i < ((14 : Int32)).toNatClampNeg → ¬ r3 i ∈ S.L) → ¬ q2 ∈ S.L ++ (List.range ((14 : Int32)).toNatClampNeg).map r3 → wkLt (wnT S q2 18 14 ((14 : Int32)).toNatClampNeg ((18 : Int32)).toNatClampNeg ((List.range ((14 : Int32)).toNatClampNeg).map r3) r3) fun S4 => wkLt (wu_Inequalities_table S4 l0A (some q2)) fun S7 => ¬ (14 : Int32) < 0 ∧ (0 + 1 + ((14 : Int32)).toNatClampNeg) + 1 ≤ k ∧ (0 + ((14 : Int32)).toNatClampNeg + ((14 : Int32)).toNatClampNeg * ((18 : Int32)).toNatClampNeg) + ((14 : Int32)).toNatClampNeg ≤ n ∧ ((14 : Int32)).toNatClampNeg * 4 ≤ 536870912 ∧ ∀ q9 : Nat, ¬ q9 ∈ S7.L → wkLt (wnI S7 q9 13 ((14 : Int32)).toNatClampNeg (fun _ => 0)) fun S10 => wkLt (wu_Inequalities_rowLabels S10 l0A (some q9)) fun S11 => ¬ (18 : Int32) < 0 ∧ ((0 + 1 + ((14 : Int32)).toNatClampNeg) + 1) + 1 ≤ k ∧ ((0 + ((14 : Int32)).toNatClampNeg + ((14 : Int32)).toNatClampNeg * ((18 : Int32)).toNatClampNeg) + ((14 : Int32)).toNatClampNeg) + ((18 : Int32)).toNatClampNeg ≤ n ∧ ((18 : Int32)).toNatClampNeg * 4 ≤ 536870912 ∧ ∀ q13 : Nat, ¬ q13 ∈ S11.L → wkLt (wnI S11 q13 13 ((18 : Int32)).toNatClampNeg (fun _ => 0)) fun S14 => wkLt (wu_Inequalities_columnLabels S14 l0A (some q13)) fun S15 => Φ () S15
set_option maxHeartbeats 4000000 in
set_option maxRecDepth 100000 in
theorem tX5_init {l : Launch} {g : wkG} {F : Nat} {k n : Nat}  {S : wPS} {l0A : Nat} {Φ : (Unit → wPS → Prop)} (hmk : wkMk g) (hW : wkTT S) (hl0A : wkIs S l0A 5) (h : rX5_init F k n l0A S Φ) : wkMet l g yX5_init wvX5_init 1 k n [.ref l0A] S (fun v' S'' => ∃ v : Unit, v' = none ∧ Φ v S'' ∧ wkTT S'' ∧ wkExt S S'') := by
  refine wkMet_ofI (ret := none) (plainFor_of_name (by decide)) rfl rfl (Nat.le_of_ble_eq_true rfl) (fun X hg C hR hI0 E => ?_)
  subst hg
  have hE : wkExt S S := wkExt.rf
  have hd : 1 ≤ 1 := Nat.le_refl _
  show wkGo l X 1 0 0 0 S [some (.ref l0A)] []
  unfold rX5_init at h
  refine wk_aload_n C dX5_init_0 rfl rfl ?_
  refine wk_objInit C hR (List.mem_of_getElem? (i := 1) rfl) (List.mem_of_getElem? (i := 2) rfl) (List.mem_of_getElem? (i := 3) rfl) (Nat.le_trans (by decide) hd) (Nat.le_of_ble_eq_true rfl) dX5_init_1 ?_
  refine wk_aload_n C dX5_init_4 rfl rfl ?_
  refine wk_bipush C (v := 14) dX5_init_5 (by decide) ?_
  refine wk_bipush C (v := 18) dX5_init_7 (by decide) ?_
  obtain ⟨h1a, h1b, h1c, h1d, h1e, h1f, h⟩ := h
  refine wk_mnaJ C hR hmk (List.mem_of_getElem? (i := 4) rfl) (List.mem_of_getElem? (i := 5) rfl) h1a h1b h1c h1d h1e h1f dX5_init_9 (fun q2 r3 h1i h1r h1q => ?_)
  obtain ⟨S4, eS4, h⟩ := wkLt_some (h q2 r3 h1i h1r h1q)
  rw [← eS4]
  obtain ⟨hXS4, hIS4⟩ := wkExt_newT eS4 (fun z => h1q (List.mem_append_left _ z)) (fun a ha z => by obtain ⟨i, hi, rfl⟩ := List.mem_map.mp ha; exact h1r i (List.mem_range.mp hi) z)
  have hWS4 : wkTT S4 := trivial
  have z5 : 0 + 1 + ((14 : Int32)).toNatClampNeg ≤ k := by omega
  have z6 : 0 + ((14 : Int32)).toNatClampNeg + ((14 : Int32)).toNatClampNeg * ((18 : Int32)).toNatClampNeg ≤ n := by omega
  obtain ⟨S7, eS7, h⟩ := wkLt_some h
  refine wk_putF C hI0 (S' := S7) huX5_init_5 (hXS4 _ _ hl0A).1 (fun cy => wAt_5 cy _ (hXS4 _ _ hl0A).2) rfl 0 (by decide) (List.mem_of_getElem? (i := 6) rfl) rfl tyX5_ok nmX5 rfl rfl (ty := (.array (.array .long))) rfl rfl rfl (by show 0 < 7; decide) (fun cy b => by rw [eS7]; exact wSt_5_0 cy _ (hXS4 _ _ hl0A).2 (some q2) b) (by rw [eS7]) dX5_init_13 ?_
  have hWS7 : wkTT S7 := trivial
  have hXS7 : wkExt S4 S7 := by rw [eS7]; exact wkExt.rf
  refine wk_aload_n C dX5_init_16 rfl rfl ?_
  refine wk_bipush C (v := 14) dX5_init_17 (by decide) ?_
  obtain ⟨h8a, h8b, h8c, h8d, h⟩ := h
  refine wk_newI C hR (List.mem_of_getElem? (i := 7) rfl) h8a h8b h8c h8d dX5_init_19 (fun q9 h8e => ?_)
  obtain ⟨S10, eS10, h⟩ := wkLt_some (h q9 h8e)
  rw [← eS10]
  obtain ⟨hXS10, hIS10⟩ := wkExt_newI eS10 h8e
  have hWS10 : wkTT S10 := trivial
  obtain ⟨S11, eS11, h⟩ := wkLt_some h
  refine wk_putF C hI0 (S' := S11) huX5_init_5 (hXS10 _ _ (hXS7 _ _ (hXS4 _ _ hl0A))).1 (fun cy => wAt_5 cy _ (hXS10 _ _ (hXS7 _ _ (hXS4 _ _ hl0A))).2) rfl 1 (by decide) (List.mem_of_getElem? (i := 8) rfl) rfl tyX5_ok nmX5 rfl rfl (ty := (.array .int)) rfl rfl rfl (by show 1 < 7; decide) (fun cy b => by rw [eS11]; exact wSt_5_1 cy _ (hXS10 _ _ (hXS7 _ _ (hXS4 _ _ hl0A))).2 (some q9) b) (by rw [eS11]) dX5_init_21 ?_
  have hWS11 : wkTT S11 := trivial
  have hXS11 : wkExt S10 S11 := by rw [eS11]; exact wkExt.rf
  refine wk_aload_n C dX5_init_24 rfl rfl ?_
  refine wk_bipush C (v := 18) dX5_init_25 (by decide) ?_
  obtain ⟨h12a, h12b, h12c, h12d, h⟩ := h
  refine wk_newI C hR (List.mem_of_getElem? (i := 7) rfl) h12a h12b h12c h12d dX5_init_27 (fun q13 h12e => ?_)
  obtain ⟨S14, eS14, h⟩ := wkLt_some (h q13 h12e)
  rw [← eS14]
  obtain ⟨hXS14, hIS14⟩ := wkExt_newI eS14 h12e
  have hWS14 : wkTT S14 := trivial
  obtain ⟨S15, eS15, h⟩ := wkLt_some h
  refine wk_putF C hI0 (S' := S15) huX5_init_5 (hXS14 _ _ (hXS11 _ _ (hXS10 _ _ (hXS7 _ _ (hXS4 _ _ hl0A))))).1 (fun cy => wAt_5 cy _ (hXS14 _ _ (hXS11 _ _ (hXS10 _ _ (hXS7 _ _ (hXS4 _ _ hl0A))))).2) rfl 2 (by decide) (List.mem_of_getElem? (i := 9) rfl) rfl tyX5_ok nmX5 rfl rfl (ty := (.array .int)) rfl rfl rfl (by show 2 < 7; decide) (fun cy b => by rw [eS15]; exact wSt_5_2 cy _ (hXS14 _ _ (hXS11 _ _ (hXS10 _ _ (hXS7 _ _ (hXS4 _ _ hl0A))))).2 (some q13) b) (by rw [eS15]) dX5_init_29 ?_
  have hWS15 : wkTT S15 := trivial
  have hXS15 : wkExt S14 S15 := by rw [eS15]; exact wkExt.rf
  exact E _ _ _ _ _ h12b h12c dX5_init_32 ⟨(), rfl, h, hWS15, (wkExt.tr (wkExt.tr (wkExt.tr (wkExt.tr (wkExt.tr (wkExt.tr hE hXS4) hXS7) hXS10) hXS11) hXS14) hXS15)⟩
def wvX5_times : List Cond := .code yX5_times cX5_times 3 (some .int) :: (([.fieldLink RX5 23 "Witnessworks$Entry" "itemCount" "I", .methodLink RX5 79 yX3_at, .instanceMethod yX3_at, .selects RX3 yX3_at yX3_at, .initialized RX3] : List Cond) ++ ((wsX30) ++ (wvX3_at)))
theorem huX5_times_3 : ∀ w ∈ u_ws RX3 TX3 17, w ∈ wvX5_times := fun w h => List.mem_cons_of_mem _ (List.mem_append_right _ (List.mem_append_left _ h))
theorem hbX5_times_X3_at : ∀ w ∈ wvX3_at, w ∈ wvX5_times := fun w h => List.mem_cons_of_mem _ (List.mem_append_right _ (List.mem_append_right _ h))
theorem gdX5_times : ∀ w ∈ wvX5_times, wkGd w := wkGdC rfl (wkGdA (wkGdL (by decide +kernel)) (wkGdA gdX3 gdX3_at))
def rX5_times (F : Nat) (l0A : Nat) (l1I : Int32) (l2I : Int32) (S : wPS) (Φ : (Int32 → wPS → Prop)) : Prop :=
  if (gEntry_itemCount S l0A) ≤ l1I then (Φ (1 : Int32) S) else (rX3_at F l0A l1I l2I S fun v2 S3 => Φ v2 S3)
set_option maxHeartbeats 4000000 in
set_option maxRecDepth 100000 in
theorem tX5_times {l : Launch} {g : wkG} {F : Nat}  {S : wPS} {l0A : Nat} {l1I : Int32} {l2I : Int32} {Φ : (Int32 → wPS → Prop)} (hW : wkWF S) (hl0A : wkIs S l0A 3) (h : rX5_times F l0A l1I l2I S Φ) : wkMet l g yX5_times wvX5_times 1 0 0 [.ref l0A, .int l1I, .int l2I] S (fun v' S'' => ∃ v : Int32, v' = some (.int v) ∧ Φ v S'' ∧ wkWF S'' ∧ wkExt S S'') := by
  refine wkMet_of (ret := (some .int)) (by decide) rfl (Nat.le_of_ble_eq_true rfl) (fun X hg C hR E => ?_)
  subst hg
  have hE : wkExt S S := wkExt.rf
  have hd : 1 ≤ 1 := Nat.le_refl _
  show wkGo l X 3 0 0 0 S [some (.ref l0A), some (.int l1I), some (.int l2I)] []
  unfold rX5_times at h
  refine wk_iload_n C dX5_times_0 rfl rfl ?_
  refine wk_aload_n C dX5_times_1 rfl rfl ?_
  refine wk_get C (v := .int (gEntry_itemCount S l0A)) huX5_times_3 hl0A.1 (fun cy => wAt_3 cy _ hl0A.2) rfl 6 (by decide) (List.mem_of_getElem? (i := 1) rfl) rfl rfl dX5_times_2 ?_
  refine wk_icmp_ge C (tgt := 17) dX5_times_5 (by decide) (fun c1 => ?_) (fun c1 => ?_)
  · rw [if_pos c1] at h
    refine wk_iconst C (v := 1) dX5_times_17 (by decide) ?_
    exact E _ _ _ _ _ _ (Nat.le_refl 0) (Nat.le_refl 0) dX5_times_18 ⟨(1 : Int32), rfl, h, hW, hE⟩
  · rw [if_neg c1] at h
    refine wk_aload_n C dX5_times_8 rfl rfl ?_
    refine wk_iload_n C dX5_times_9 rfl rfl ?_
    refine wk_iload_n C dX5_times_10 rfl rfl ?_
    refine wk_callV C hR (As := [.int l1I, .int l2I]) (cnt := 2) (tX3_at (l := l) hW hl0A h) rfl (wkGoodV (List.mem_of_getElem? (i := 2) rfl) (List.mem_of_getElem? (i := 3) rfl) (List.mem_of_getElem? (i := 4) rfl) (List.mem_of_getElem? (i := 5) rfl) hbX5_times_X3_at gdX3_at) (Nat.le_trans (by decide : 0 + 1 ≤ 1) hd) (by decide) hl0A.1 (fun cy => wAt_3 cy _ hl0A.2) rfl ⟨by decide, by decide, by decide +kernel⟩ rfl rfl (Nat.le_of_ble_eq_true rfl) (Nat.le_refl 0) (Nat.le_refl 0) dX5_times_11 (fun v' S3 hp => ?_)
    obtain ⟨v2, rfl, h, hWS3, hXS3⟩ := hp
    refine wk_goto C (tgt := 18) dX5_times_14 (by decide) ?_
    exact E _ _ _ _ _ _ (Nat.le_refl 0) (Nat.le_refl 0) dX5_times_18 ⟨v2, rfl, h, hWS3, (wkExt.tr hE hXS3)⟩
def wvX5_limitOf : List Cond := .code yX5_limitOf cX5_limitOf 2 (some .int) :: (([.fieldLink RX5 23 "Witnessworks$Entry" "itemCount" "I", .fieldLink RX5 44 "Witnessworks$Entry" "boundNow" "I", .methodLink RX5 79 yX3_at, .instanceMethod yX3_at, .selects RX3 yX3_at yX3_at, .initialized RX3] : List Cond) ++ ((wsX30) ++ (wvX3_at)))
theorem huX5_limitOf_3 : ∀ w ∈ u_ws RX3 TX3 17, w ∈ wvX5_limitOf := fun w h => List.mem_cons_of_mem _ (List.mem_append_right _ (List.mem_append_left _ h))
theorem hbX5_limitOf_X3_at : ∀ w ∈ wvX3_at, w ∈ wvX5_limitOf := fun w h => List.mem_cons_of_mem _ (List.mem_append_right _ (List.mem_append_right _ h))
theorem gdX5_limitOf : ∀ w ∈ wvX5_limitOf, wkGd w := wkGdC rfl (wkGdA (wkGdL (by decide +kernel)) (wkGdA gdX3 gdX3_at))
def rX5_limitOf (F : Nat) (l0A : Nat) (l1I : Int32) (S : wPS) (Φ : (Int32 → wPS → Prop)) : Prop :=
  if (gEntry_itemCount S l0A) ≤ l1I then (Φ (gEntry_boundNow S l0A) S) else (rX3_at F l0A l1I (4 : Int32) S fun v2 S3 => Φ v2 S3)
set_option maxHeartbeats 4000000 in
set_option maxRecDepth 100000 in
theorem tX5_limitOf {l : Launch} {g : wkG} {F : Nat}  {S : wPS} {l0A : Nat} {l1I : Int32} {Φ : (Int32 → wPS → Prop)} (hW : wkWF S) (hl0A : wkIs S l0A 3) (h : rX5_limitOf F l0A l1I S Φ) : wkMet l g yX5_limitOf wvX5_limitOf 1 0 0 [.ref l0A, .int l1I] S (fun v' S'' => ∃ v : Int32, v' = some (.int v) ∧ Φ v S'' ∧ wkWF S'' ∧ wkExt S S'') := by
  refine wkMet_of (ret := (some .int)) (by decide) rfl (Nat.le_of_ble_eq_true rfl) (fun X hg C hR E => ?_)
  subst hg
  have hE : wkExt S S := wkExt.rf
  have hd : 1 ≤ 1 := Nat.le_refl _
  show wkGo l X 2 0 0 0 S [some (.ref l0A), some (.int l1I)] []
  unfold rX5_limitOf at h
  refine wk_iload_n C dX5_limitOf_0 rfl rfl ?_
  refine wk_aload_n C dX5_limitOf_1 rfl rfl ?_
  refine wk_get C (v := .int (gEntry_itemCount S l0A)) huX5_limitOf_3 hl0A.1 (fun cy => wAt_3 cy _ hl0A.2) rfl 6 (by decide) (List.mem_of_getElem? (i := 1) rfl) rfl rfl dX5_limitOf_2 ?_
  refine wk_icmp_ge C (tgt := 17) dX5_limitOf_5 (by decide) (fun c1 => ?_) (fun c1 => ?_)
  · rw [if_pos c1] at h
    refine wk_aload_n C dX5_limitOf_17 rfl rfl ?_
    refine wk_get C (v := .int (gEntry_boundNow S l0A)) huX5_limitOf_3 hl0A.1 (fun cy => wAt_3 cy _ hl0A.2) rfl 8 (by decide) (List.mem_of_getElem? (i := 2) rfl) rfl rfl dX5_limitOf_18 ?_
    exact E _ _ _ _ _ _ (Nat.le_refl 0) (Nat.le_refl 0) dX5_limitOf_21 ⟨(gEntry_boundNow S l0A), rfl, h, hW, hE⟩
  · rw [if_neg c1] at h
    refine wk_aload_n C dX5_limitOf_8 rfl rfl ?_
    refine wk_iload_n C dX5_limitOf_9 rfl rfl ?_
    refine wk_iconst C (v := 4) dX5_limitOf_10 (by decide) ?_
    refine wk_callV C hR (As := [.int l1I, .int (4 : Int32)]) (cnt := 2) (tX3_at (l := l) hW hl0A h) rfl (wkGoodV (List.mem_of_getElem? (i := 3) rfl) (List.mem_of_getElem? (i := 4) rfl) (List.mem_of_getElem? (i := 5) rfl) (List.mem_of_getElem? (i := 6) rfl) hbX5_limitOf_X3_at gdX3_at) (Nat.le_trans (by decide : 0 + 1 ≤ 1) hd) (by decide) hl0A.1 (fun cy => wAt_3 cy _ hl0A.2) rfl ⟨by decide, by decide, by decide +kernel⟩ rfl rfl (Nat.le_of_ble_eq_true rfl) (Nat.le_refl 0) (Nat.le_refl 0) dX5_limitOf_11 (fun v' S3 hp => ?_)
    obtain ⟨v2, rfl, h, hWS3, hXS3⟩ := hp
    refine wk_goto C (tgt := 21) dX5_limitOf_14 (by decide) ?_
    exact E _ _ _ _ _ _ (Nat.le_refl 0) (Nat.le_refl 0) dX5_limitOf_21 ⟨v2, rfl, h, hWS3, (wkExt.tr hE hXS3)⟩
