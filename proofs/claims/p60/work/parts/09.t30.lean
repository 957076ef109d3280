def wvX4_carriesEdges : List Cond := .code yX4_carriesEdges cX4_carriesEdges 7 (some .boolean) :: (([.fieldLink RX4 191 "Witnessworks$Entry" "size" "I", .methodLink RX4 276 yX4_addSomeEdge, .static yX4_addSomeEdge, .initialized RX4, .fieldLink RX4 219 "Witnessworks$Entry" "itemCount" "I", .methodLink RX4 222 yX3_at, .instanceMethod yX3_at, .selects RX3 yX3_at yX3_at, .initialized RX3, .static yX11_has, .initialized RX11, .methodLink RX4 255 yX3_addItem, .instanceMethod yX3_addItem, .selects RX3 yX3_addItem yX3_addItem, .fieldLink RX4 116 "Witnessworks$Entry" "boundNow" "I", .methodLink RX4 251 yX3_begin, .instanceMethod yX3_begin, .selects RX3 yX3_begin yX3_begin] : List Cond) ++ ((wsX30) ++ (wvX4_addSomeEdge ++ (wvX3_at ++ (wvX11_has ++ (wvX3_addItem ++ (wvX3_begin)))))))
theorem huX4_carriesEdges_3 : ∀ w ∈ u_ws RX3 TX3 17, w ∈ wvX4_carriesEdges := fun w h => List.mem_cons_of_mem _ (List.mem_append_right _ (List.mem_append_left _ h))
theorem hbX4_carriesEdges_X4_addSomeEdge : ∀ w ∈ wvX4_addSomeEdge, w ∈ wvX4_carriesEdges := fun w h => List.mem_cons_of_mem _ (List.mem_append_right _ (List.mem_append_right _ (List.mem_append_left _ h)))
theorem hbX4_carriesEdges_X3_at : ∀ w ∈ wvX3_at, w ∈ wvX4_carriesEdges := fun w h => List.mem_cons_of_mem _ (List.mem_append_right _ (List.mem_append_right _ (List.mem_append_right _ (List.mem_append_left _ h))))
theorem hbX4_carriesEdges_X11_has : ∀ w ∈ wvX11_has, w ∈ wvX4_carriesEdges := fun w h => List.mem_cons_of_mem _ (List.mem_append_right _ (List.mem_append_right _ (List.mem_append_right _ (List.mem_append_right _ (List.mem_append_left _ h)))))
theorem hbX4_carriesEdges_X3_addItem : ∀ w ∈ wvX3_addItem, w ∈ wvX4_carriesEdges := fun w h => List.mem_cons_of_mem _ (List.mem_append_right _ (List.mem_append_right _ (List.mem_append_right _ (List.mem_append_right _ (List.mem_append_right _ (List.mem_append_left _ h))))))
theorem hbX4_carriesEdges_X3_begin : ∀ w ∈ wvX3_begin, w ∈ wvX4_carriesEdges := fun w h => List.mem_cons_of_mem _ (List.mem_append_right _ (List.mem_append_right _ (List.mem_append_right _ (List.mem_append_right _ (List.mem_append_right _ (List.mem_append_right _ h))))))
theorem gdX4_carriesEdges : ∀ w ∈ wvX4_carriesEdges, wkGd w := wkGdC rfl (wkGdA (wkGdL (by decide +kernel)) (wkGdA gdX3 (wkGdA gdX4_addSomeEdge (wkGdA gdX3_at (wkGdA gdX11_has (wkGdA gdX3_addItem gdX3_begin))))))
def rX4_carriesEdges_b0 (F : Nat) (rec : Nat → Nat → Nat → Int32 → Int32 → Int32 → wPS → (Int32 → wPS → Prop) → Prop) (l1A : Nat) (l2A : Nat) (l3I : Int32) (l4I : Int32) (S : wPS) (Φ : (Int32 → wPS → Prop)) : Prop :=
  if (gEntry_size S l1A) ≤ l4I then (rec 1 l1A l2A l3I (0 : Int32) 0 S Φ) else (rX4_addSomeEdge F l1A l2A l4I S fun v2 S3 => if v2 = 0 then (Φ (0 : Int32) S3) else (wkLt (l4I + (1 : Int32)) fun x8 => rec 0 l1A l2A l3I x8 0 S3 Φ))
def rX4_carriesEdges_b1 (F : Nat) (rec : Nat → Nat → Nat → Int32 → Int32 → Int32 → wPS → (Int32 → wPS → Prop) → Prop) (l1A : Nat) (l2A : Nat) (l3I : Int32) (l4I : Int32) (S : wPS) (Φ : (Int32 → wPS → Prop)) : Prop :=
  if l3I ≤ l4I then (¬ ((4 : Int32) < 0 ∨ 12 ≤ ((4 : Int32)).toNatClampNeg) ∧ if (wkTab 4 ((4 : Int32)).toNatClampNeg) < (gEntry_itemCount S l2A) then (Φ (0 : Int32) S) else (Φ (1 : Int32) S)) else (wkLt ((l4I + (1 : Int32))) fun x12 => rec 2 l1A l2A l3I l4I x12 S Φ)
def rX4_carriesEdges_b2 (F : Nat) (rec : Nat → Nat → Nat → Int32 → Int32 → Int32 → wPS → (Int32 → wPS → Prop) → Prop) (l1A : Nat) (l2A : Nat) (l3I : Int32) (l4I : Int32) (l5I : Int32) (S : wPS) (Φ : (Int32 → wPS → Prop)) : Prop :=
  if l3I ≤ l5I then (wkLt (l4I + (1 : Int32)) fun x14 => rec 1 l1A l2A l3I x14 0 S Φ) else (rX3_at F l1A l5I (0 : Int32) S fun v15 S16 => rX3_at F l1A l5I (1 : Int32) S16 fun v20 S21 => wkLt ((((1 : Int32) <<< (v15 &&& 31)) ||| ((1 : Int32) <<< (v20 &&& 31)))) fun x25 => rX3_at F l1A l4I (0 : Int32) S21 fun v26 S27 => rX11_has F x25 v26 S27 fun v31 S32 => if v31 = 0 then (rX3_at F l1A l4I (1 : Int32) S32 fun v43 S44 => rX11_has F x25 v43 S44 fun v48 S49 => if v48 = 0 then (wkLt (l5I + (1 : Int32)) fun x54 => rec 2 l1A l2A l3I l4I x54 S49 Φ) else (rX3_addItem F l2A ((-l4I) - (1 : Int32)) ((-l5I) - (1 : Int32)) (0 : Int32) S49 fun v55 S56 => wkLt (l5I + (1 : Int32)) fun x60 => rec 2 l1A l2A l3I l4I x60 S56 Φ)) else (rX3_addItem F l2A ((-l4I) - (1 : Int32)) ((-l5I) - (1 : Int32)) (0 : Int32) S32 fun v37 S38 => wkLt (l5I + (1 : Int32)) fun x42 => rec 2 l1A l2A l3I l4I x42 S38 Φ))
def rX4_carriesEdges_go (F : Nat) : Nat → Nat → Nat → Nat → Int32 → Int32 → Int32 → wPS → (Int32 → wPS → Prop) → Prop
  | 0, _, _, _, _, _, _, _, _ => False
  | k' + 1, lab, l1A, l2A, l3I, l4I, l5I, S, Φ => if lab = 0 then rX4_carriesEdges_b0 F (rX4_carriesEdges_go F k') l1A l2A l3I l4I S Φ else if lab = 1 then rX4_carriesEdges_b1 F (rX4_carriesEdges_go F k') l1A l2A l3I l4I S Φ else if lab = 2 then rX4_carriesEdges_b2 F (rX4_carriesEdges_go F k') l1A l2A l3I l4I l5I S Φ else False
def rX4_carriesEdges_s (F : Nat) (rec : Nat → Nat → Nat → Int32 → Int32 → Int32 → wPS → (Int32 → wPS → Prop) → Prop) (l0A : Nat) (l1A : Nat) (l2A : Nat) (S : wPS) (Φ : (Int32 → wPS → Prop)) : Prop :=
  wkLt ((gEntry_itemCount S l1A)) fun x61 => if (gEntry_boundNow S l1A) = 0 then (if x61 < (1 : Int32) then (Φ (0 : Int32) S) else (¬ ((4 : Int32) < 0 ∨ 12 ≤ ((4 : Int32)).toNatClampNeg) ∧ if x61 ≤ (wkTab 1 ((4 : Int32)).toNatClampNeg) then (rX3_begin F l2A (4 : Int32) x61 x61 S fun v66 S67 => rec 0 l1A l2A x61 (0 : Int32) 0 S67 Φ) else (Φ (0 : Int32) S))) else (Φ (0 : Int32) S)
def rX4_carriesEdges (F : Nat) (l0A : Nat) (l1A : Nat) (l2A : Nat) (S : wPS) (Φ : (Int32 → wPS → Prop)) : Prop := rX4_carriesEdges_s F (rX4_carriesEdges_go F F) l0A l1A l2A S Φ
set_option maxHeartbeats 4000000 in
set_option maxRecDepth 100000 in
theorem tX4_carriesEdges_go {l : Launch} {X : wkX} {d F : Nat} {S0 : wPS} {Φ : (Int32 → wPS → Prop)} (hst : wkSta (wkXg X)) (C : wkC X cX4_carriesEdges RX4 7 wvX4_carriesEdges) (hR : wkRm X d 0 0) (hd : 2 ≤ d) (E : wkEnd l X cX4_carriesEdges 7 (some .boolean) 0 0 (fun v' S'' => ∃ v : Int32, v' = some (.int v) ∧ Φ v S'' ∧ wkWF S'' ∧ wkExt S0 S'')) : ∀ k' : Nat, (∀ (l1A : Nat) (l2A : Nat) (l3I : Int32) (l4I : Int32) (S : wPS), wkWF S → wkExt S0 S → wkIs S l1A 3 → wkIs S l2A 3 → rX4_carriesEdges_go F k' 0 l1A l2A l3I l4I 0 S Φ → wkGo l X 7 0 0 38 S [none, some (.ref l1A), some (.ref l2A), some (.int l3I), some (.int l4I), none, none] []) ∧ (∀ (l1A : Nat) (l2A : Nat) (l3I : Int32) (l4I : Int32) (S : wPS), wkWF S → wkExt S0 S → wkIs S l1A 3 → wkIs S l2A 3 → rX4_carriesEdges_go F k' 1 l1A l2A l3I l4I 0 S Φ → wkGo l X 7 0 0 68 S [none, some (.ref l1A), some (.ref l2A), some (.int l3I), some (.int l4I), none, none] []) ∧ (∀ (l1A : Nat) (l2A : Nat) (l3I : Int32) (l4I : Int32) (l5I : Int32) (S : wPS), wkWF S → wkExt S0 S → wkIs S l1A 3 → wkIs S l2A 3 → rX4_carriesEdges_go F k' 2 l1A l2A l3I l4I l5I S Φ → wkGo l X 7 0 0 80 S [none, some (.ref l1A), some (.ref l2A), some (.int l3I), some (.int l4I), some (.int l5I), none] []) := by
  intro k'
  induction k' with
  | zero => exact ⟨fun l1A l2A l3I l4I S hW hE hl1A hl2A h => h.elim, fun l1A l2A l3I l4I S hW hE hl1A hl2A h => h.elim, fun l1A l2A l3I l4I l5I S hW hE hl1A hl2A h => h.elim⟩
  | succ k' ih =>
    refine ⟨?_, ?_, ?_⟩
    · intro l1A l2A l3I l4I S hW hE hl1A hl2A h
      have h : rX4_carriesEdges_b0 F (rX4_carriesEdges_go F k') l1A l2A l3I l4I S Φ := by
        rw [rX4_carriesEdges_go, if_pos (rfl : (0 : Nat) = 0)] at h
        exact h
      unfold rX4_carriesEdges_b0 at h
      refine wk_iload C dX4_carriesEdges_38 rfl ?_
      refine wk_aload_n C dX4_carriesEdges_40 rfl rfl ?_
      refine wk_get C (v := .int (gEntry_size S l1A)) huX4_carriesEdges_3 hl1A.1 (fun cy => wAt_3 cy _ hl1A.2) rfl 1 (by decide) (List.mem_of_getElem? (i := 1) rfl) rfl rfl dX4_carriesEdges_41 ?_
      refine wk_icmp_ge C (tgt := 65) dX4_carriesEdges_44 (by decide) (fun c1 => ?_) (fun c1 => ?_)
      · rw [if_pos c1] at h
        refine wk_iconst C (v := 0) dX4_carriesEdges_65 (by decide) ?_
        refine wk_istore C (lv' := [none, some (.ref l1A), some (.ref l2A), some (.int l3I), some (.int (0 : Int32)), none, none]) dX4_carriesEdges_66 (by decide) rfl ?_
        exact wk_forget (lv' := [none, some (.ref l1A), some (.ref l2A), some (.int l3I), some (.int (0 : Int32)), none, none]) (wkLs.le ⟨rfl, rfl, rfl, rfl, trivial⟩) (ih.2.1 _ _ _ _ _ hW hE hl1A hl2A h)
      · rw [if_neg c1] at h
        refine wk_aload_n C dX4_carriesEdges_47 rfl rfl ?_
        refine wk_aload_n C dX4_carriesEdges_48 rfl rfl ?_
        refine wk_iload C dX4_carriesEdges_49 rfl ?_
        refine wk_callW C hR (As := [.ref l1A, .ref l2A, .int l4I]) (cnt := 3) (tX4_addSomeEdge (l := l) hW hl1A hl2A h) rfl (wkGoodW (List.mem_of_getElem? (i := 2) rfl) (List.mem_of_getElem? (i := 3) rfl) (List.mem_of_getElem? (i := 4) rfl) hbX4_carriesEdges_X4_addSomeEdge gdX4_addSomeEdge) (Nat.le_trans (by decide : 1 + 1 ≤ 2) hd) (by decide) ⟨by decide, by decide, by decide +kernel⟩ rfl rfl (Nat.le_of_ble_eq_true rfl) (Nat.le_refl 0) (Nat.le_refl 0) dX4_carriesEdges_51 (fun v' S3 hp => ?_)
        obtain ⟨v2, rfl, h, hWS3, hXS3⟩ := hp
        refine wk_if_ne C (tgt := 59) dX4_carriesEdges_54 (by decide) (fun c7 => ?_) (fun c7 => ?_)
        · rw [if_neg c7] at h
          obtain ⟨x8, ex8, h⟩ := wkLt_some h
          refine wk_iinc C (lv' := [none, some (.ref l1A), some (.ref l2A), some (.int l3I), some (.int x8), none, none]) dX4_carriesEdges_59 rfl (by rw [ex8]; rfl) (by decide) rfl ?_
          refine wk_goto C (tgt := 38) dX4_carriesEdges_62 (by decide) ?_
          exact wk_forget (lv' := [none, some (.ref l1A), some (.ref l2A), some (.int l3I), some (.int x8), none, none]) (wkLs.le ⟨rfl, rfl, rfl, rfl, trivial⟩) (ih.1 _ _ _ _ _ hWS3 (wkExt.tr hE hXS3) (hXS3 _ _ hl1A) (hXS3 _ _ hl2A) h)
        · rw [if_pos c7] at h
          refine wk_iconst C (v := 0) dX4_carriesEdges_57 (by decide) ?_
          exact E _ _ _ _ _ _ (Nat.le_refl 0) (Nat.le_refl 0) dX4_carriesEdges_58 rfl ⟨(0 : Int32), rfl, h, hWS3, (wkExt.tr hE hXS3)⟩
    · intro l1A l2A l3I l4I S hW hE hl1A hl2A h
      have h : rX4_carriesEdges_b1 F (rX4_carriesEdges_go F k') l1A l2A l3I l4I S Φ := by
        rw [rX4_carriesEdges_go, if_neg (show ¬ (1 : Nat) = 0 by decide), if_pos (rfl : (1 : Nat) = 1)] at h
        exact h
      unfold rX4_carriesEdges_b1 at h
      refine wk_iload C dX4_carriesEdges_68 rfl ?_
      refine wk_iload_n C dX4_carriesEdges_70 rfl rfl ?_
      refine wk_icmp_ge C (tgt := 164) dX4_carriesEdges_71 (by decide) (fun c9 => ?_) (fun c9 => ?_)
      · rw [if_pos c9] at h
        refine wk_aload_n C dX4_carriesEdges_164 rfl rfl ?_
        refine wk_get C (v := .int (gEntry_itemCount S l2A)) huX4_carriesEdges_3 hl2A.1 (fun cy => wAt_3 cy _ hl2A.2) rfl 6 (by decide) (List.mem_of_getElem? (i := 5) rfl) rfl rfl dX4_carriesEdges_165 ?_
        refine wk_getsN C rfl hst (i := 4) (by decide) (by decide) dX4_carriesEdges_168 ?_
        refine wk_iconst C (v := 4) dX4_carriesEdges_171 (by decide) ?_
        obtain ⟨i10, h⟩ := h
        refine wk_tabld C hst (i := 4) (by decide) i10 rfl dX4_carriesEdges_172 ?_
        refine wk_icmp_gt C (tgt := 180) dX4_carriesEdges_173 (by decide) (fun c11 => ?_) (fun c11 => ?_)
        · rw [if_pos c11] at h
          refine wk_iconst C (v := 0) dX4_carriesEdges_180 (by decide) ?_
          exact E _ _ _ _ _ _ (Nat.le_refl 0) (Nat.le_refl 0) dX4_carriesEdges_181 rfl ⟨(0 : Int32), rfl, h, hW, hE⟩
        · rw [if_neg c11] at h
          refine wk_iconst C (v := 1) dX4_carriesEdges_176 (by decide) ?_
          refine wk_goto C (tgt := 181) dX4_carriesEdges_177 (by decide) ?_
          exact E _ _ _ _ _ _ (Nat.le_refl 0) (Nat.le_refl 0) dX4_carriesEdges_181 rfl ⟨(1 : Int32), rfl, h, hW, hE⟩
      · rw [if_neg c9] at h
        refine wk_iload C dX4_carriesEdges_74 rfl ?_
        refine wk_iconst C (v := 1) dX4_carriesEdges_76 (by decide) ?_
        refine wk_iadd C dX4_carriesEdges_77 rfl ?_
        obtain ⟨x12, ex12, h⟩ := wkLt_some h
        refine wk_topi ex12 ?_
        refine wk_istore C (lv' := [none, some (.ref l1A), some (.ref l2A), some (.int l3I), some (.int l4I), some (.int x12), none]) dX4_carriesEdges_78 (by decide) rfl ?_
        exact wk_forget (lv' := [none, some (.ref l1A), some (.ref l2A), some (.int l3I), some (.int l4I), some (.int x12), none]) (wkLs.le ⟨rfl, rfl, rfl, rfl, rfl, trivial⟩) (ih.2.2 _ _ _ _ _ _ hW hE hl1A hl2A h)
    · intro l1A l2A l3I l4I l5I S hW hE hl1A hl2A h
      have h : rX4_carriesEdges_b2 F (rX4_carriesEdges_go F k') l1A l2A l3I l4I l5I S Φ := by
        rw [rX4_carriesEdges_go, if_neg (show ¬ (2 : Nat) = 0 by decide), if_neg (show ¬ (2 : Nat) = 1 by decide), if_pos (rfl : (2 : Nat) = 2)] at h
        exact h
      unfold rX4_carriesEdges_b2 at h
      refine wk_iload C dX4_carriesEdges_80 rfl ?_
      refine wk_iload_n C dX4_carriesEdges_82 rfl rfl ?_
      refine wk_icmp_ge C (tgt := 158) dX4_carriesEdges_83 (by decide) (fun c13 => ?_) (fun c13 => ?_)
      · rw [if_pos c13] at h
        obtain ⟨x14, ex14, h⟩ := wkLt_some h
        refine wk_iinc C (lv' := [none, some (.ref l1A), some (.ref l2A), some (.int l3I), some (.int x14), some (.int l5I), none]) dX4_carriesEdges_158 rfl (by rw [ex14]; rfl) (by decide) rfl ?_
        refine wk_goto C (tgt := 68) dX4_carriesEdges_161 (by decide) ?_
        exact wk_forget (lv' := [none, some (.ref l1A), some (.ref l2A), some (.int l3I), some (.int x14), none, none]) (wkLs.le ⟨rfl, rfl, rfl, rfl, trivial⟩) (ih.2.1 _ _ _ _ _ hW hE hl1A hl2A h)
      · rw [if_neg c13] at h
        refine wk_iconst C (v := 1) dX4_carriesEdges_86 (by decide) ?_
        refine wk_aload_n C dX4_carriesEdges_87 rfl rfl ?_
        refine wk_iload C dX4_carriesEdges_88 rfl ?_
        refine wk_iconst C (v := 0) dX4_carriesEdges_90 (by decide) ?_
        refine wk_callV C hR (As := [.int l5I, .int (0 : Int32)]) (cnt := 2) (tX3_at (l := l) hW hl1A h) rfl (wkGoodV (List.mem_of_getElem? (i := 6) rfl) (List.mem_of_getElem? (i := 7) rfl) (List.mem_of_getElem? (i := 8) rfl) (List.mem_of_getElem? (i := 9) rfl) hbX4_carriesEdges_X3_at gdX3_at) (Nat.le_trans (by decide : 0 + 1 ≤ 2) hd) (by decide) hl1A.1 (fun cy => wAt_3 cy _ hl1A.2) rfl ⟨by decide, by decide, by decide +kernel⟩ rfl rfl (Nat.le_of_ble_eq_true rfl) (Nat.le_refl 0) (Nat.le_refl 0) dX4_carriesEdges_91 (fun v' S16 hp => ?_)
        obtain ⟨v15, rfl, h, hWS16, hXS16⟩ := hp
        refine wk_ishl C dX4_carriesEdges_94 rfl ?_
        refine wk_iconst C (v := 1) dX4_carriesEdges_95 (by decide) ?_
        refine wk_aload_n C dX4_carriesEdges_96 rfl rfl ?_
        refine wk_iload C dX4_carriesEdges_97 rfl ?_
        refine wk_iconst C (v := 1) dX4_carriesEdges_99 (by decide) ?_
        refine wk_callV C hR (As := [.int l5I, .int (1 : Int32)]) (cnt := 2) (tX3_at (l := l) hWS16 (hXS16 _ _ hl1A) h) rfl (wkGoodV (List.mem_of_getElem? (i := 6) rfl) (List.mem_of_getElem? (i := 7) rfl) (List.mem_of_getElem? (i := 8) rfl) (List.mem_of_getElem? (i := 9) rfl) hbX4_carriesEdges_X3_at gdX3_at) (Nat.le_trans (by decide : 0 + 1 ≤ 2) hd) (by decide) (hXS16 _ _ hl1A).1 (fun cy => wAt_3 cy _ (hXS16 _ _ hl1A).2) rfl ⟨by decide, by decide, by decide +kernel⟩ rfl rfl (Nat.le_of_ble_eq_true rfl) (Nat.le_refl 0) (Nat.le_refl 0) dX4_carriesEdges_100 (fun v' S21 hp => ?_)
        obtain ⟨v20, rfl, h, hWS21, hXS21⟩ := hp
        refine wk_ishl C dX4_carriesEdges_103 rfl ?_
        refine wk_ior C dX4_carriesEdges_104 rfl ?_
        obtain ⟨x25, ex25, h⟩ := wkLt_some h
        refine wk_topi ex25 ?_
        refine wk_istore C (lv' := [none, some (.ref l1A), some (.ref l2A), some (.int l3I), some (.int l4I), some (.int l5I), some (.int x25)]) dX4_carriesEdges_105 (by decide) rfl ?_
        refine wk_iload C dX4_carriesEdges_107 rfl ?_
        refine wk_aload_n C dX4_carriesEdges_109 rfl rfl ?_
        refine wk_iload C dX4_carriesEdges_110 rfl ?_
        refine wk_iconst C (v := 0) dX4_carriesEdges_112 (by decide) ?_
        refine wk_callV C hR (As := [.int l4I, .int (0 : Int32)]) (cnt := 2) (tX3_at (l := l) hWS21 (hXS21 _ _ (hXS16 _ _ hl1A)) h) rfl (wkGoodV (List.mem_of_getElem? (i := 6) rfl) (List.mem_of_getElem? (i := 7) rfl) (List.mem_of_getElem? (i := 8) rfl) (List.mem_of_getElem? (i := 9) rfl) hbX4_carriesEdges_X3_at gdX3_at) (Nat.le_trans (by decide : 0 + 1 ≤ 2) hd) (by decide) (hXS21 _ _ (hXS16 _ _ hl1A)).1 (fun cy => wAt_3 cy _ (hXS21 _ _ (hXS16 _ _ hl1A)).2) rfl ⟨by decide, by decide, by decide +kernel⟩ rfl rfl (Nat.le_of_ble_eq_true rfl) (Nat.le_refl 0) (Nat.le_refl 0) dX4_carriesEdges_113 (fun v' S27 hp => ?_)
        obtain ⟨v26, rfl, h, hWS27, hXS27⟩ := hp
        refine wk_callN C hR (y := yX11_has) (host := "Witnessworks") (As := [.int x25, .int v26]) (cnt := 2) (tX11_has (l := l) hWS27  h) rfl (fun w h => ⟨hbX4_carriesEdges_X11_has w h, gdX11_has w h⟩) (by decide +kernel) (List.mem_of_getElem? (i := 10) rfl) (List.mem_of_getElem? (i := 11) rfl) (Nat.le_trans (by decide : 0 + 1 ≤ 2) hd) (by decide) ⟨by decide, by decide, by decide +kernel⟩ rfl rfl (Nat.le_of_ble_eq_true rfl) (Nat.le_refl 0) (Nat.le_refl 0) dX4_carriesEdges_116 (fun v' S32 hp => ?_)
        obtain ⟨v31, rfl, h, hWS32, hXS32⟩ := hp
        refine wk_if_ne C (tgt := 137) dX4_carriesEdges_119 (by decide) (fun c36 => ?_) (fun c36 => ?_)
        · rw [if_neg c36] at h
          refine wk_aload_n C dX4_carriesEdges_137 rfl rfl ?_
          refine wk_iload C dX4_carriesEdges_138 rfl ?_
          refine wk_ineg C dX4_carriesEdges_140 rfl ?_
          refine wk_iconst C (v := 1) dX4_carriesEdges_141 (by decide) ?_
          refine wk_isub C dX4_carriesEdges_142 rfl ?_
          refine wk_iload C dX4_carriesEdges_143 rfl ?_
          refine wk_ineg C dX4_carriesEdges_145 rfl ?_
          refine wk_iconst C (v := 1) dX4_carriesEdges_146 (by decide) ?_
          refine wk_isub C dX4_carriesEdges_147 rfl ?_
          refine wk_iconst C (v := 0) dX4_carriesEdges_148 (by decide) ?_
          refine wk_callV C hR (As := [.int ((-l4I) - (1 : Int32)), .int ((-l5I) - (1 : Int32)), .int (0 : Int32)]) (cnt := 3) (tX3_addItem (l := l) hWS32 (hXS32 _ _ (hXS27 _ _ (hXS21 _ _ (hXS16 _ _ hl2A)))) h) rfl (wkGoodV (List.mem_of_getElem? (i := 12) rfl) (List.mem_of_getElem? (i := 13) rfl) (List.mem_of_getElem? (i := 14) rfl) (List.mem_of_getElem? (i := 9) rfl) hbX4_carriesEdges_X3_addItem gdX3_addItem) (Nat.le_trans (by decide : 0 + 1 ≤ 2) hd) (by decide) (hXS32 _ _ (hXS27 _ _ (hXS21 _ _ (hXS16 _ _ hl2A)))).1 (fun cy => wAt_3 cy _ (hXS32 _ _ (hXS27 _ _ (hXS21 _ _ (hXS16 _ _ hl2A)))).2) rfl ⟨by decide, by decide, by decide +kernel⟩ rfl rfl (Nat.le_of_ble_eq_true rfl) (Nat.le_refl 0) (Nat.le_refl 0) dX4_carriesEdges_149 (fun v' S38 hp => ?_)
          obtain ⟨v37, rfl, h, hWS38, hXS38⟩ := hp
          obtain ⟨x42, ex42, h⟩ := wkLt_some h
          refine wk_iinc C (lv' := [none, some (.ref l1A), some (.ref l2A), some (.int l3I), some (.int l4I), some (.int x42), some (.int x25)]) dX4_carriesEdges_152 rfl (by rw [ex42]; rfl) (by decide) rfl ?_
          refine wk_goto C (tgt := 80) dX4_carriesEdges_155 (by decide) ?_
          exact wk_forget (lv' := [none, some (.ref l1A), some (.ref l2A), some (.int l3I), some (.int l4I), some (.int x42), none]) (wkLs.le ⟨rfl, rfl, rfl, rfl, rfl, trivial⟩) (ih.2.2 _ _ _ _ _ _ hWS38 (wkExt.tr (wkExt.tr (wkExt.tr (wkExt.tr (wkExt.tr hE hXS16) hXS21) hXS27) hXS32) hXS38) (hXS38 _ _ (hXS32 _ _ (hXS27 _ _ (hXS21 _ _ (hXS16 _ _ hl1A))))) (hXS38 _ _ (hXS32 _ _ (hXS27 _ _ (hXS21 _ _ (hXS16 _ _ hl2A))))) h)
        · rw [if_pos c36] at h
          refine wk_iload C dX4_carriesEdges_122 rfl ?_
          refine wk_aload_n C dX4_carriesEdges_124 rfl rfl ?_
          refine wk_iload C dX4_carriesEdges_125 rfl ?_
          refine wk_iconst C (v := 1) dX4_carriesEdges_127 (by decide) ?_
          refine wk_callV C hR (As := [.int l4I, .int (1 : Int32)]) (cnt := 2) (tX3_at (l := l) hWS32 (hXS32 _ _ (hXS27 _ _ (hXS21 _ _ (hXS16 _ _ hl1A)))) h) rfl (wkGoodV (List.mem_of_getElem? (i := 6) rfl) (List.mem_of_getElem? (i := 7) rfl) (List.mem_of_getElem? (i := 8) rfl) (List.mem_of_getElem? (i := 9) rfl) hbX4_carriesEdges_X3_at gdX3_at) (Nat.le_trans (by decide : 0 + 1 ≤ 2) hd) (by decide) (hXS32 _ _ (hXS27 _ _ (hXS21 _ _ (hXS16 _ _ hl1A)))).1 (fun cy => wAt_3 cy _ (hXS32 _ _ (hXS27 _ _ (hXS21 _ _ (hXS16 _ _ hl1A)))).2) rfl ⟨by decide, by decide, by decide +kernel⟩ rfl rfl (Nat.le_of_ble_eq_true rfl) (Nat.le_refl 0) (Nat.le_refl 0) dX4_carriesEdges_128 (fun v' S44 hp => ?_)
          obtain ⟨v43, rfl, h, hWS44, hXS44⟩ := hp
          refine wk_callN C hR (y := yX11_has) (host := "Witnessworks") (As := [.int x25, .int v43]) (cnt := 2) (tX11_has (l := l) hWS44  h) rfl (fun w h => ⟨hbX4_carriesEdges_X11_has w h, gdX11_has w h⟩) (by decide +kernel) (List.mem_of_getElem? (i := 10) rfl) (List.mem_of_getElem? (i := 11) rfl) (Nat.le_trans (by decide : 0 + 1 ≤ 2) hd) (by decide) ⟨by decide, by decide, by decide +kernel⟩ rfl rfl (Nat.le_of_ble_eq_true rfl) (Nat.le_refl 0) (Nat.le_refl 0) dX4_carriesEdges_131 (fun v' S49 hp => ?_)
          obtain ⟨v48, rfl, h, hWS49, hXS49⟩ := hp
          refine wk_if_eq C (tgt := 152) dX4_carriesEdges_134 (by decide) (fun c53 => ?_) (fun c53 => ?_)
          · rw [if_pos c53] at h
            obtain ⟨x54, ex54, h⟩ := wkLt_some h
            refine wk_iinc C (lv' := [none, some (.ref l1A), some (.ref l2A), some (.int l3I), some (.int l4I), some (.int x54), some (.int x25)]) dX4_carriesEdges_152 rfl (by rw [ex54]; rfl) (by decide) rfl ?_
            refine wk_goto C (tgt := 80) dX4_carriesEdges_155 (by decide) ?_
            exact wk_forget (lv' := [none, some (.ref l1A), some (.ref l2A), some (.int l3I), some (.int l4I), some (.int x54), none]) (wkLs.le ⟨rfl, rfl, rfl, rfl, rfl, trivial⟩) (ih.2.2 _ _ _ _ _ _ hWS49 (wkExt.tr (wkExt.tr (wkExt.tr (wkExt.tr (wkExt.tr (wkExt.tr hE hXS16) hXS21) hXS27) hXS32) hXS44) hXS49) (hXS49 _ _ (hXS44 _ _ (hXS32 _ _ (hXS27 _ _ (hXS21 _ _ (hXS16 _ _ hl1A)))))) (hXS49 _ _ (hXS44 _ _ (hXS32 _ _ (hXS27 _ _ (hXS21 _ _ (hXS16 _ _ hl2A)))))) h)
          · rw [if_neg c53] at h
            refine wk_aload_n C dX4_carriesEdges_137 rfl rfl ?_
            refine wk_iload C dX4_carriesEdges_138 rfl ?_
            refine wk_ineg C dX4_carriesEdges_140 rfl ?_
            refine wk_iconst C (v := 1) dX4_carriesEdges_141 (by decide) ?_
            refine wk_isub C dX4_carriesEdges_142 rfl ?_
            refine wk_iload C dX4_carriesEdges_143 rfl ?_
            refine wk_ineg C dX4_carriesEdges_145 rfl ?_
            refine wk_iconst C (v := 1) dX4_carriesEdges_146 (by decide) ?_
            refine wk_isub C dX4_carriesEdges_147 rfl ?_
            refine wk_iconst C (v := 0) dX4_carriesEdges_148 (by decide) ?_
            refine wk_callV C hR (As := [.int ((-l4I) - (1 : Int32)), .int ((-l5I) - (1 : Int32)), .int (0 : Int32)]) (cnt := 3) (tX3_addItem (l := l) hWS49 (hXS49 _ _ (hXS44 _ _ (hXS32 _ _ (hXS27 _ _ (hXS21 _ _ (hXS16 _ _ hl2A)))))) h) rfl (wkGoodV (List.mem_of_getElem? (i := 12) rfl) (List.mem_of_getElem? (i := 13) rfl) (List.mem_of_getElem? (i := 14) rfl) (List.mem_of_getElem? (i := 9) rfl) hbX4_carriesEdges_X3_addItem gdX3_addItem) (Nat.le_trans (by decide : 0 + 1 ≤ 2) hd) (by decide) (hXS49 _ _ (hXS44 _ _ (hXS32 _ _ (hXS27 _ _ (hXS21 _ _ (hXS16 _ _ hl2A)))))).1 (fun cy => wAt_3 cy _ (hXS49 _ _ (hXS44 _ _ (hXS32 _ _ (hXS27 _ _ (hXS21 _ _ (hXS16 _ _ hl2A)))))).2) rfl ⟨by decide, by decide, by decide +kernel⟩ rfl rfl (Nat.le_of_ble_eq_true rfl) (Nat.le_refl 0) (Nat.le_refl 0) dX4_carriesEdges_149 (fun v' S56 hp => ?_)
            obtain ⟨v55, rfl, h, hWS56, hXS56⟩ := hp
            obtain ⟨x60, ex60, h⟩ := wkLt_some h
            refine wk_iinc C (lv' := [none, some (.ref l1A), some (.ref l2A), some (.int l3I), some (.int l4I), some (.int x60), some (.int x25)]) dX4_carriesEdges_152 rfl (by rw [ex60]; rfl) (by decide) rfl ?_
            refine wk_goto C (tgt := 80) dX4_carriesEdges_155 (by decide) ?_
            exact wk_forget (lv' := [none, some (.ref l1A), some (.ref l2A), some (.int l3I), some (.int l4I), some (.int x60), none]) (wkLs.le ⟨rfl, rfl, rfl, rfl, rfl, trivial⟩) (ih.2.2 _ _ _ _ _ _ hWS56 (wkExt.tr (wkExt.tr (wkExt.tr (wkExt.tr (wkExt.tr (wkExt.tr (wkExt.tr hE hXS16) hXS21) hXS27) hXS32) hXS44) hXS49) hXS56) (hXS56 _ _ (hXS49 _ _ (hXS44 _ _ (hXS32 _ _ (hXS27 _ _ (hXS21 _ _ (hXS16 _ _ hl1A))))))) (hXS56 _ _ (hXS49 _ _ (hXS44 _ _ (hXS32 _ _ (hXS27 _ _ (hXS21 _ _ (hXS16 _ _ hl2A))))))) h)
set_option maxHeartbeats 4000000 in
set_option maxRecDepth 100000 in
theorem tX4_carriesEdges {l : Launch} {g : wkG} {F : Nat}  {S : wPS} {l0A : Nat} {l1A : Nat} {l2A : Nat} {Φ : (Int32 → wPS → Prop)} (hst : wkSta g) (hW : wkWF S) (hl0A : wkIs S l0A 4) (hl1A : wkIs S l1A 3) (hl2A : wkIs S l2A 3) (h : rX4_carriesEdges F l0A l1A l2A S Φ) : wkMet l g yX4_carriesEdges wvX4_carriesEdges 2 0 0 [.ref l0A, .ref l1A, .ref l2A] S (fun v' S'' => ∃ v : Int32, v' = some (.int v) ∧ Φ v S'' ∧ wkWF S'' ∧ wkExt S S'') := by
  refine wkMet_of (ret := (some .boolean)) (by decide) rfl (Nat.le_of_ble_eq_true rfl) (fun X hg C hR E => ?_)
  subst hg
  have hE : wkExt S S := wkExt.rf
  have hd : 2 ≤ 2 := Nat.le_refl _
  show wkGo l X 7 0 0 0 S [some (.ref l0A), some (.ref l1A), some (.ref l2A), none, none, none, none] []
  have ih := tX4_carriesEdges_go (F := F) hst C hR hd E F
  have h : rX4_carriesEdges_s F (rX4_carriesEdges_go F F) l0A l1A l2A S Φ := h
  unfold rX4_carriesEdges_s at h
  refine wk_aload_n C dX4_carriesEdges_0 rfl rfl ?_
  refine wk_get C (v := .int (gEntry_itemCount S l1A)) huX4_carriesEdges_3 hl1A.1 (fun cy => wAt_3 cy _ hl1A.2) rfl 6 (by decide) (List.mem_of_getElem? (i := 5) rfl) rfl rfl dX4_carriesEdges_1 ?_
  obtain ⟨x61, ex61, h⟩ := wkLt_some h
  refine wk_topi ex61 ?_
  refine wk_istore_n C (lv' := [some (.ref l0A), some (.ref l1A), some (.ref l2A), some (.int x61), none, none, none]) dX4_carriesEdges_4 rfl (by decide) rfl ?_
  refine wk_aload_n C dX4_carriesEdges_5 rfl rfl ?_
  refine wk_get C (v := .int (gEntry_boundNow S l1A)) huX4_carriesEdges_3 hl1A.1 (fun cy => wAt_3 cy _ hl1A.2) rfl 8 (by decide) (List.mem_of_getElem? (i := 15) rfl) rfl rfl dX4_carriesEdges_6 ?_
  refine wk_if_ne C (tgt := 26) dX4_carriesEdges_9 (by decide) (fun c62 => ?_) (fun c62 => ?_)
  · rw [if_neg c62] at h
    refine wk_iconst C (v := 0) dX4_carriesEdges_26 (by decide) ?_
    exact E _ _ _ _ _ _ (Nat.le_refl 0) (Nat.le_refl 0) dX4_carriesEdges_27 rfl ⟨(0 : Int32), rfl, h, hW, hE⟩
  · rw [if_pos c62] at h
    refine wk_iload_n C dX4_carriesEdges_12 rfl rfl ?_
    refine wk_iconst C (v := 1) dX4_carriesEdges_13 (by decide) ?_
    refine wk_icmp_lt C (tgt := 26) dX4_carriesEdges_14 (by decide) (fun c63 => ?_) (fun c63 => ?_)
    · rw [if_pos c63] at h
      refine wk_iconst C (v := 0) dX4_carriesEdges_26 (by decide) ?_
      exact E _ _ _ _ _ _ (Nat.le_refl 0) (Nat.le_refl 0) dX4_carriesEdges_27 rfl ⟨(0 : Int32), rfl, h, hW, hE⟩
    · rw [if_neg c63] at h
      refine wk_iload_n C dX4_carriesEdges_17 rfl rfl ?_
      refine wk_getsN C rfl hst (i := 1) (by decide) (by decide) dX4_carriesEdges_18 ?_
      refine wk_iconst C (v := 4) dX4_carriesEdges_21 (by decide) ?_
      obtain ⟨i64, h⟩ := h
      refine wk_tabld C hst (i := 1) (by decide) i64 rfl dX4_carriesEdges_22 ?_
      refine wk_icmp_le C (tgt := 28) dX4_carriesEdges_23 (by decide) (fun c65 => ?_) (fun c65 => ?_)
      · rw [if_pos c65] at h
        refine wk_aload_n C dX4_carriesEdges_28 rfl rfl ?_
        refine wk_iconst C (v := 4) dX4_carriesEdges_29 (by decide) ?_
        refine wk_iload_n C dX4_carriesEdges_30 rfl rfl ?_
        refine wk_iload_n C dX4_carriesEdges_31 rfl rfl ?_
        refine wk_callV C hR (As := [.int (4 : Int32), .int x61, .int x61]) (cnt := 3) (tX3_begin (l := l) hW hl2A h) rfl (wkGoodV (List.mem_of_getElem? (i := 16) rfl) (List.mem_of_getElem? (i := 17) rfl) (List.mem_of_getElem? (i := 18) rfl) (List.mem_of_getElem? (i := 9) rfl) hbX4_carriesEdges_X3_begin gdX3_begin) (Nat.le_trans (by decide : 0 + 1 ≤ 2) hd) (by decide) hl2A.1 (fun cy => wAt_3 cy _ hl2A.2) rfl ⟨by decide, by decide, by decide +kernel⟩ rfl rfl (Nat.le_of_ble_eq_true rfl) (Nat.le_refl 0) (Nat.le_refl 0) dX4_carriesEdges_32 (fun v' S67 hp => ?_)
        obtain ⟨v66, rfl, h, hWS67, hXS67⟩ := hp
        refine wk_iconst C (v := 0) dX4_carriesEdges_35 (by decide) ?_
        refine wk_istore C (lv' := [some (.ref l0A), some (.ref l1A), some (.ref l2A), some (.int x61), some (.int (0 : Int32)), none, none]) dX4_carriesEdges_36 (by decide) rfl ?_
        exact wk_forget (lv' := [none, some (.ref l1A), some (.ref l2A), some (.int x61), some (.int (0 : Int32)), none, none]) (wkLs.le ⟨rfl, rfl, rfl, rfl, trivial⟩) (ih.1 _ _ _ _ _ hWS67 (wkExt.tr hE hXS67) (hXS67 _ _ hl1A) (hXS67 _ _ hl2A) h)
      · rw [if_neg c65] at h
        refine wk_iconst C (v := 0) dX4_carriesEdges_26 (by decide) ?_
        exact E _ _ _ _ _ _ (Nat.le_refl 0) (Nat.le_refl 0) dX4_carriesEdges_27 rfl ⟨(0 : Int32), rfl, h, hW, hE⟩
def wvX4_canBringBack : List Cond := .code yX4_canBringBack cX4_canBringBack 3 (some .boolean) :: (([.fieldLink RX4 75 "Witnessworks$Entry" "kind" "I", .fieldLink RX4 280 "Witnessworks$Entry" "reply" "C", .fieldLink RX4 64 "Witnessworks$Entry" "row" "LWitnessworks$Row;", .methodLink RX4 284 yX9_at, .instanceMethod yX9_at, .selects RX9 yX9_at yX9_at, .initialized RX9] : List Cond) ++ ((wsX30) ++ (wvX9_at)))
theorem huX4_canBringBack_3 : ∀ w ∈ u_ws RX3 TX3 17, w ∈ wvX4_canBringBack := fun w h => List.mem_cons_of_mem _ (List.mem_append_right _ (List.mem_append_left _ h))
theorem hbX4_canBringBack_X9_at : ∀ w ∈ wvX9_at, w ∈ wvX4_canBringBack := fun w h => List.mem_cons_of_mem _ (List.mem_append_right _ (List.mem_append_right _ h))
theorem gdX4_canBringBack : ∀ w ∈ wvX4_canBringBack, wkGd w := wkGdC rfl (wkGdA (wkGdL (by decide +kernel)) (wkGdA gdX3 gdX9_at))
def rX4_canBringBack (F : Nat) (l0A : Nat) (l1A : Nat) (l2A : Nat) (S : wPS) (Φ : (Int32 → wPS → Prop)) : Prop :=
  if (gEntry_kind S l1A) = (1 : Int32) then (if (gEntry_kind S l2A) = 0 then (Φ (1 : Int32) S) else (Φ (0 : Int32) S)) else (if (gEntry_kind S l1A) = (3 : Int32) then (if (gEntry_kind S l2A) = (1 : Int32) then (if (gEntry_reply S l1A) = (121 : Int32) then (rX9_at F (wkAd (gEntry_row S l1A)) (0 : Int32) S fun v8 S9 => if v8 = (1 : Int32) then (Φ (1 : Int32) S9) else (Φ (0 : Int32) S9)) else (Φ (0 : Int32) S)) else (Φ (0 : Int32) S)) else (if (gEntry_kind S l1A) = (4 : Int32) then (if (gEntry_kind S l2A) = 0 then (if (gEntry_reply S l1A) = (121 : Int32) then (Φ (1 : Int32) S) else (Φ (0 : Int32) S)) else (Φ (0 : Int32) S)) else (Φ (0 : Int32) S)))
set_option maxHeartbeats 4000000 in
set_option maxRecDepth 100000 in
theorem tX4_canBringBack {l : Launch} {g : wkG} {F : Nat}  {S : wPS} {l0A : Nat} {l1A : Nat} {l2A : Nat} {Φ : (Int32 → wPS → Prop)} (hW : wkWF S) (hl0A : wkIs S l0A 4) (hl1A : wkIs S l1A 3) (hl2A : wkIs S l2A 3) (h : rX4_canBringBack F l0A l1A l2A S Φ) : wkMet l g yX4_canBringBack wvX4_canBringBack 1 0 0 [.ref l0A, .ref l1A, .ref l2A] S (fun v' S'' => ∃ v : Int32, v' = some (.int v) ∧ Φ v S'' ∧ wkWF S'' ∧ wkExt S S'') := by
  refine wkMet_of (ret := (some .boolean)) (by decide) rfl (Nat.le_of_ble_eq_true rfl) (fun X hg C hR E => ?_)
  subst hg
  have hE : wkExt S S := wkExt.rf
  have hd : 1 ≤ 1 := Nat.le_refl _
  show wkGo l X 3 0 0 0 S [some (.ref l0A), some (.ref l1A), some (.ref l2A)] []
  unfold rX4_canBringBack at h
  refine wk_aload_n C dX4_canBringBack_0 rfl rfl ?_
  refine wk_get C (v := .int (gEntry_kind S l1A)) huX4_canBringBack_3 hl1A.1 (fun cy => wAt_3 cy _ hl1A.2) rfl 0 (by decide) (List.mem_of_getElem? (i := 1) rfl) rfl rfl dX4_canBringBack_1 ?_
  refine wk_iconst C (v := 1) dX4_canBringBack_4 (by decide) ?_
  refine wk_icmp_ne C (tgt := 21) dX4_canBringBack_5 (by decide) (fun c1 => ?_) (fun c1 => ?_)
  · rw [if_neg c1] at h
    refine wk_aload_n C dX4_canBringBack_21 rfl rfl ?_
    refine wk_get C (v := .int (gEntry_kind S l1A)) huX4_canBringBack_3 hl1A.1 (fun cy => wAt_3 cy _ hl1A.2) rfl 0 (by decide) (List.mem_of_getElem? (i := 1) rfl) rfl rfl dX4_canBringBack_22 ?_
    refine wk_iconst C (v := 3) dX4_canBringBack_25 (by decide) ?_
    refine wk_icmp_ne C (tgt := 64) dX4_canBringBack_26 (by decide) (fun c2 => ?_) (fun c2 => ?_)
    · rw [if_neg c2] at h
      refine wk_aload_n C dX4_canBringBack_64 rfl rfl ?_
      refine wk_get C (v := .int (gEntry_kind S l1A)) huX4_canBringBack_3 hl1A.1 (fun cy => wAt_3 cy _ hl1A.2) rfl 0 (by decide) (List.mem_of_getElem? (i := 1) rfl) rfl rfl dX4_canBringBack_65 ?_
      refine wk_iconst C (v := 4) dX4_canBringBack_68 (by decide) ?_
      refine wk_icmp_ne C (tgt := 92) dX4_canBringBack_69 (by decide) (fun c3 => ?_) (fun c3 => ?_)
      · rw [if_neg c3] at h
        refine wk_iconst C (v := 0) dX4_canBringBack_92 (by decide) ?_
        exact E _ _ _ _ _ _ (Nat.le_refl 0) (Nat.le_refl 0) dX4_canBringBack_93 rfl ⟨(0 : Int32), rfl, h, hW, hE⟩
      · rw [if_pos c3] at h
        refine wk_aload_n C dX4_canBringBack_72 rfl rfl ?_
        refine wk_get C (v := .int (gEntry_kind S l2A)) huX4_canBringBack_3 hl2A.1 (fun cy => wAt_3 cy _ hl2A.2) rfl 0 (by decide) (List.mem_of_getElem? (i := 1) rfl) rfl rfl dX4_canBringBack_73 ?_
        refine wk_if_ne C (tgt := 92) dX4_canBringBack_76 (by decide) (fun c4 => ?_) (fun c4 => ?_)
        · rw [if_neg c4] at h
          refine wk_iconst C (v := 0) dX4_canBringBack_92 (by decide) ?_
          exact E _ _ _ _ _ _ (Nat.le_refl 0) (Nat.le_refl 0) dX4_canBringBack_93 rfl ⟨(0 : Int32), rfl, h, hW, hE⟩
        · rw [if_pos c4] at h
          refine wk_aload_n C dX4_canBringBack_79 rfl rfl ?_
          refine wk_get C (v := .int (gEntry_reply S l1A)) huX4_canBringBack_3 hl1A.1 (fun cy => wAt_3 cy _ hl1A.2) rfl 11 (by decide) (List.mem_of_getElem? (i := 2) rfl) rfl rfl dX4_canBringBack_80 ?_
          refine wk_bipush C (v := 121) dX4_canBringBack_83 (by decide) ?_
          refine wk_icmp_ne C (tgt := 92) dX4_canBringBack_85 (by decide) (fun c5 => ?_) (fun c5 => ?_)
          · rw [if_neg c5] at h
            refine wk_iconst C (v := 0) dX4_canBringBack_92 (by decide) ?_
            exact E _ _ _ _ _ _ (Nat.le_refl 0) (Nat.le_refl 0) dX4_canBringBack_93 rfl ⟨(0 : Int32), rfl, h, hW, hE⟩
          · rw [if_pos c5] at h
            refine wk_iconst C (v := 1) dX4_canBringBack_88 (by decide) ?_
            refine wk_goto C (tgt := 93) dX4_canBringBack_89 (by decide) ?_
            exact E _ _ _ _ _ _ (Nat.le_refl 0) (Nat.le_refl 0) dX4_canBringBack_93 rfl ⟨(1 : Int32), rfl, h, hW, hE⟩
    · rw [if_pos c2] at h
      refine wk_aload_n C dX4_canBringBack_29 rfl rfl ?_
      refine wk_get C (v := .int (gEntry_kind S l2A)) huX4_canBringBack_3 hl2A.1 (fun cy => wAt_3 cy _ hl2A.2) rfl 0 (by decide) (List.mem_of_getElem? (i := 1) rfl) rfl rfl dX4_canBringBack_30 ?_
      refine wk_iconst C (v := 1) dX4_canBringBack_33 (by decide) ?_
      refine wk_icmp_ne C (tgt := 62) dX4_canBringBack_34 (by decide) (fun c6 => ?_) (fun c6 => ?_)
      · rw [if_neg c6] at h
        refine wk_iconst C (v := 0) dX4_canBringBack_62 (by decide) ?_
        exact E _ _ _ _ _ _ (Nat.le_refl 0) (Nat.le_refl 0) dX4_canBringBack_63 rfl ⟨(0 : Int32), rfl, h, hW, hE⟩
      · rw [if_pos c6] at h
        refine wk_aload_n C dX4_canBringBack_37 rfl rfl ?_
        refine wk_get C (v := .int (gEntry_reply S l1A)) huX4_canBringBack_3 hl1A.1 (fun cy => wAt_3 cy _ hl1A.2) rfl 11 (by decide) (List.mem_of_getElem? (i := 2) rfl) rfl rfl dX4_canBringBack_38 ?_
        refine wk_bipush C (v := 121) dX4_canBringBack_41 (by decide) ?_
        refine wk_icmp_ne C (tgt := 62) dX4_canBringBack_43 (by decide) (fun c7 => ?_) (fun c7 => ?_)
        · rw [if_neg c7] at h
          refine wk_iconst C (v := 0) dX4_canBringBack_62 (by decide) ?_
          exact E _ _ _ _ _ _ (Nat.le_refl 0) (Nat.le_refl 0) dX4_canBringBack_63 rfl ⟨(0 : Int32), rfl, h, hW, hE⟩
        · rw [if_pos c7] at h
          refine wk_aload_n C dX4_canBringBack_46 rfl rfl ?_
          refine wk_get C huX4_canBringBack_3 hl1A.1 (fun cy => wAt_3 cy _ hl1A.2) rfl 13 (by decide) (List.mem_of_getElem? (i := 3) rfl) rfl (congrArg some (congrArg va_rf (wf_Entry_row hW hl1A).1)) dX4_canBringBack_47 ?_
          refine wk_iconst C (v := 0) dX4_canBringBack_50 (by decide) ?_
          refine wk_callV C hR (As := [.int (0 : Int32)]) (cnt := 1) (tX9_at (l := l) hW (wf_Entry_row hW hl1A).2 h) rfl (wkGoodV (List.mem_of_getElem? (i := 4) rfl) (List.mem_of_getElem? (i := 5) rfl) (List.mem_of_getElem? (i := 6) rfl) (List.mem_of_getElem? (i := 7) rfl) hbX4_canBringBack_X9_at gdX9_at) (Nat.le_trans (by decide : 0 + 1 ≤ 1) hd) (by decide) (wf_Entry_row hW hl1A).2.1 (fun cy => wAt_9 cy _ (wf_Entry_row hW hl1A).2.2) rfl ⟨by decide, by decide, by decide +kernel⟩ rfl rfl (Nat.le_of_ble_eq_true rfl) (Nat.le_refl 0) (Nat.le_refl 0) dX4_canBringBack_51 (fun v' S9 hp => ?_)
          obtain ⟨v8, rfl, h, hWS9, hXS9⟩ := hp
          refine wk_iconst C (v := 1) dX4_canBringBack_54 (by decide) ?_
          refine wk_icmp_ne C (tgt := 62) dX4_canBringBack_55 (by decide) (fun c13 => ?_) (fun c13 => ?_)
          · rw [if_neg c13] at h
            refine wk_iconst C (v := 0) dX4_canBringBack_62 (by decide) ?_
            exact E _ _ _ _ _ _ (Nat.le_refl 0) (Nat.le_refl 0) dX4_canBringBack_63 rfl ⟨(0 : Int32), rfl, h, hWS9, (wkExt.tr hE hXS9)⟩
          · rw [if_pos c13] at h
            refine wk_iconst C (v := 1) dX4_canBringBack_58 (by decide) ?_
            refine wk_goto C (tgt := 63) dX4_canBringBack_59 (by decide) ?_
            exact E _ _ _ _ _ _ (Nat.le_refl 0) (Nat.le_refl 0) dX4_canBringBack_63 rfl ⟨(1 : Int32), rfl, h, hWS9, (wkExt.tr hE hXS9)⟩
  · rw [if_pos c1] at h
    refine wk_aload_n C dX4_canBringBack_8 rfl rfl ?_
    refine wk_get C (v := .int (gEntry_kind S l2A)) huX4_canBringBack_3 hl2A.1 (fun cy => wAt_3 cy _ hl2A.2) rfl 0 (by decide) (List.mem_of_getElem? (i := 1) rfl) rfl rfl dX4_canBringBack_9 ?_
    refine wk_if_ne C (tgt := 19) dX4_canBringBack_12 (by decide) (fun c14 => ?_) (fun c14 => ?_)
    · rw [if_neg c14] at h
      refine wk_iconst C (v := 0) dX4_canBringBack_19 (by decide) ?_
      exact E _ _ _ _ _ _ (Nat.le_refl 0) (Nat.le_refl 0) dX4_canBringBack_20 rfl ⟨(0 : Int32), rfl, h, hW, hE⟩
    · rw [if_pos c14] at h
      refine wk_iconst C (v := 1) dX4_canBringBack_15 (by decide) ?_
      refine wk_goto C (tgt := 20) dX4_canBringBack_16 (by decide) ?_
      exact E _ _ _ _ _ _ (Nat.le_refl 0) (Nat.le_refl 0) dX4_canBringBack_20 rfl ⟨(1 : Int32), rfl, h, hW, hE⟩
