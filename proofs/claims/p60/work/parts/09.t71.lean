def wvX4_carriesPairings : List Cond := .code yX4_carriesPairings cX4_carriesPairings 10 (some .boolean) :: (([.static yX11_has, .initialized RX11, .methodLink RX4 255 yX3_addItem, .instanceMethod yX3_addItem, .selects RX3 yX3_addItem yX3_addItem, .initialized RX3, .fieldLink RX4 219 "Witnessworks$Entry" "itemCount" "I", .methodLink RX4 222 yX3_at, .instanceMethod yX3_at, .selects RX3 yX3_at yX3_at, .fieldLink RX4 191 "Witnessworks$Entry" "size" "I", .methodLink RX4 236 yX4_leftSide, .instanceMethod yX4_leftSide, .selects RX4 yX4_leftSide yX4_leftSide, .initialized RX4, .fieldLink RX4 116 "Witnessworks$Entry" "boundNow" "I", .methodLink RX4 246 Lib.Math.max.name, .static Lib.Math.max.name, .initialized "java/lang/Math", .code Lib.Math.max.name Lib.Math.max.code 2 (some .int), .methodLink RX4 251 yX3_begin, .instanceMethod yX3_begin, .selects RX3 yX3_begin yX3_begin] : List Cond) ++ ((wsX30) ++ (wvX11_has ++ (wvX3_addItem ++ (wvX3_at ++ (wvX4_leftSide ++ (wvX3_begin)))))))
theorem huX4_carriesPairings_3 : ∀ w ∈ u_ws RX3 TX3 17, w ∈ wvX4_carriesPairings := fun w h => List.mem_cons_of_mem _ (List.mem_append_right _ (List.mem_append_left _ h))
theorem hbX4_carriesPairings_X11_has : ∀ w ∈ wvX11_has, w ∈ wvX4_carriesPairings := fun w h => List.mem_cons_of_mem _ (List.mem_append_right _ (List.mem_append_right _ (List.mem_append_left _ h)))
theorem hbX4_carriesPairings_X3_addItem : ∀ w ∈ wvX3_addItem, w ∈ wvX4_carriesPairings := fun w h => List.mem_cons_of_mem _ (List.mem_append_right _ (List.mem_append_right _ (List.mem_append_right _ (List.mem_append_left _ h))))
theorem hbX4_carriesPairings_X3_at : ∀ w ∈ wvX3_at, w ∈ wvX4_carriesPairings := fun w h => List.mem_cons_of_mem _ (List.mem_append_right _ (List.mem_append_right _ (List.mem_append_right _ (List.mem_append_right _ (List.mem_append_left _ h)))))
theorem hbX4_carriesPairings_X4_leftSide : ∀ w ∈ wvX4_leftSide, w ∈ wvX4_carriesPairings := fun w h => List.mem_cons_of_mem _ (List.mem_append_right _ (List.mem_append_right _ (List.mem_append_right _ (List.mem_append_right _ (List.mem_append_right _ (List.mem_append_left _ h))))))
theorem hbX4_carriesPairings_X3_begin : ∀ w ∈ wvX3_begin, w ∈ wvX4_carriesPairings := fun w h => List.mem_cons_of_mem _ (List.mem_append_right _ (List.mem_append_right _ (List.mem_append_right _ (List.mem_append_right _ (List.mem_append_right _ (List.mem_append_right _ h))))))
theorem gdX4_carriesPairings : ∀ w ∈ wvX4_carriesPairings, wkGd w := wkGdC rfl (wkGdA (wkGdL (by decide +kernel)) (wkGdA gdX3 (wkGdA gdX11_has (wkGdA gdX3_addItem (wkGdA gdX3_at (wkGdA gdX4_leftSide gdX3_begin))))))
def rX4_carriesPairings_b0 (F : Nat) (rec : Nat → Nat → Nat → Int32 → Int32 → Int32 → wPS → (Int32 → wPS → Prop) → Prop) (l1A : Nat) (l2A : Nat) (l3I : Int32) (l4I : Int32) (l6I : Int32) (S : wPS) (Φ : (Int32 → wPS → Prop)) : Prop :=
  if l3I ≤ l6I then (rec 1 l1A l2A 0 l4I (0 : Int32) S Φ) else (rX11_has F l4I l6I S fun v2 S3 => if v2 = 0 then (rX3_addItem F l2A (l6I + (1 : Int32)) (l3I + (1 : Int32)) (1 : Int32) S3 fun v8 S9 => wkLt (l6I + (1 : Int32)) fun x13 => rec 0 l1A l2A l3I l4I x13 S9 Φ) else (rX3_addItem F l2A (0 : Int32) (l6I + (1 : Int32)) (1 : Int32) S3 fun v14 S15 => wkLt (l6I + (1 : Int32)) fun x19 => rec 0 l1A l2A l3I l4I x19 S15 Φ))
def rX4_carriesPairings_b1 (F : Nat) (rec : Nat → Nat → Nat → Int32 → Int32 → Int32 → wPS → (Int32 → wPS → Prop) → Prop) (l1A : Nat) (l2A : Nat) (l4I : Int32) (l6I : Int32) (S : wPS) (Φ : (Int32 → wPS → Prop)) : Prop :=
  if (gEntry_itemCount S l1A) ≤ l6I then (Φ (1 : Int32) S) else (rX3_at F l1A l6I (0 : Int32) S fun v21 S22 => wkLt ((v21 + (1 : Int32))) fun x26 => rX3_at F l1A l6I (1 : Int32) S22 fun v27 S28 => wkLt ((v27 + (1 : Int32))) fun x32 => rX11_has F l4I (x26 - (1 : Int32)) S28 fun v33 S34 => if v33 = 0 then (if v33 = 0 then (rX3_addItem F l2A x32 x26 (1 : Int32) S34 fun v40 S41 => wkLt (l6I + (1 : Int32)) fun x45 => rec 1 l1A l2A 0 l4I x45 S41 Φ) else (rX3_addItem F l2A x32 x32 (1 : Int32) S34 fun v46 S47 => wkLt (l6I + (1 : Int32)) fun x51 => rec 1 l1A l2A 0 l4I x51 S47 Φ)) else (if v33 = 0 then (rX3_addItem F l2A x26 x26 (1 : Int32) S34 fun v53 S54 => wkLt (l6I + (1 : Int32)) fun x58 => rec 1 l1A l2A 0 l4I x58 S54 Φ) else (rX3_addItem F l2A x26 x32 (1 : Int32) S34 fun v59 S60 => wkLt (l6I + (1 : Int32)) fun x64 => rec 1 l1A l2A 0 l4I x64 S60 Φ)))
def rX4_carriesPairings_go (F : Nat) : Nat → Nat → Nat → Nat → Int32 → Int32 → Int32 → wPS → (Int32 → wPS → Prop) → Prop
  | 0, _, _, _, _, _, _, _, _ => False
  | k' + 1, lab, l1A, l2A, l3I, l4I, l6I, S, Φ => if lab = 0 then rX4_carriesPairings_b0 F (rX4_carriesPairings_go F k') l1A l2A l3I l4I l6I S Φ else if lab = 1 then rX4_carriesPairings_b1 F (rX4_carriesPairings_go F k') l1A l2A l4I l6I S Φ else False
def rX4_carriesPairings_s (F : Nat) (rec : Nat → Nat → Nat → Int32 → Int32 → Int32 → wPS → (Int32 → wPS → Prop) → Prop) (l0A : Nat) (l1A : Nat) (l2A : Nat) (S : wPS) (Φ : (Int32 → wPS → Prop)) : Prop :=
  wkLt ((gEntry_size S l1A)) fun x65 => rX4_leftSide F l0A l1A S fun v66 S67 => if v66 < 0 then (Φ (0 : Int32) S67) else (¬ ((1 : Int32) < 0 ∨ 12 ≤ ((1 : Int32)).toNatClampNeg) ∧ if (wkTab 1 ((1 : Int32)).toNatClampNeg) < (x65 + (2 : Int32)) then (Φ (0 : Int32) S67) else (¬ ((1 : Int32) < 0 ∨ 12 ≤ ((1 : Int32)).toNatClampNeg) ∧ if (x65 + (gEntry_itemCount S67 l1A)) ≤ (wkTab 4 ((1 : Int32)).toNatClampNeg) then (wkLt ((if (0 : Int32) < (x65 - (gEntry_boundNow S67 l1A)) then (x65 - (gEntry_boundNow S67 l1A)) else (0 : Int32))) fun x76 => rX3_begin F l2A (1 : Int32) (x65 + (2 : Int32)) ((x76 + (1 : Int32)) / (2 : Int32)) S67 fun v77 S78 => rec 0 l1A l2A x65 v66 (0 : Int32) S78 Φ) else (Φ (0 : Int32) S67)))
def rX4_carriesPairings (F : Nat) (l0A : Nat) (l1A : Nat) (l2A : Nat) (S : wPS) (Φ : (Int32 → wPS → Prop)) : Prop := rX4_carriesPairings_s F (rX4_carriesPairings_go F F) l0A l1A l2A S Φ
set_option maxHeartbeats 4000000 in
set_option maxRecDepth 100000 in
theorem tX4_carriesPairings_go {l : Launch} {X : wkX} {d F : Nat} {S0 : wPS} {Φ : (Int32 → wPS → Prop)} (hst : wkSta (wkXg X)) (C : wkC X cX4_carriesPairings RX4 10 wvX4_carriesPairings) (hR : wkRm X d 0 0) (hd : 3 ≤ d) (E : wkEnd l X cX4_carriesPairings 10 (some .boolean) 0 0 (fun v' S'' => ∃ v : Int32, v' = some (.int v) ∧ Φ v S'' ∧ wkWF S'' ∧ wkExt S0 S'')) : ∀ k' : Nat, (∀ (l1A : Nat) (l2A : Nat) (l3I : Int32) (l4I : Int32) (l6I : Int32) (S : wPS), wkWF S → wkExt S0 S → wkIs S l1A 3 → wkIs S l2A 3 → rX4_carriesPairings_go F k' 0 l1A l2A l3I l4I l6I S Φ → wkGo l X 10 0 0 73 S [none, some (.ref l1A), some (.ref l2A), some (.int l3I), some (.int l4I), none, some (.int l6I), none, none, none] []) ∧ (∀ (l1A : Nat) (l2A : Nat) (l4I : Int32) (l6I : Int32) (S : wPS), wkWF S → wkExt S0 S → wkIs S l1A 3 → wkIs S l2A 3 → rX4_carriesPairings_go F k' 1 l1A l2A 0 l4I l6I S Φ → wkGo l X 10 0 0 123 S [none, some (.ref l1A), some (.ref l2A), none, some (.int l4I), none, some (.int l6I), none, none, none] []) := by
  intro k'
  induction k' with
  | zero => exact ⟨fun l1A l2A l3I l4I l6I S hW hE hl1A hl2A h => h.elim, fun l1A l2A l4I l6I S hW hE hl1A hl2A h => h.elim⟩
  | succ k' ih =>
    refine ⟨?_, ?_⟩
    · intro l1A l2A l3I l4I l6I S hW hE hl1A hl2A h
      have h : rX4_carriesPairings_b0 F (rX4_carriesPairings_go F k') l1A l2A l3I l4I l6I S Φ := by
        rw [rX4_carriesPairings_go, if_pos (rfl : (0 : Nat) = 0)] at h
        exact h
      unfold rX4_carriesPairings_b0 at h
      refine wk_iload C dX4_carriesPairings_73 rfl ?_
      refine wk_iload_n C dX4_carriesPairings_75 rfl rfl ?_
      refine wk_icmp_ge C (tgt := 120) dX4_carriesPairings_76 (by decide) (fun c1 => ?_) (fun c1 => ?_)
      · rw [if_pos c1] at h
        refine wk_iconst C (v := 0) dX4_carriesPairings_120 (by decide) ?_
        refine wk_istore C (lv' := [none, some (.ref l1A), some (.ref l2A), some (.int l3I), some (.int l4I), none, some (.int (0 : Int32)), none, none, none]) dX4_carriesPairings_121 (by decide) rfl ?_
        exact wk_forget (lv' := [none, some (.ref l1A), some (.ref l2A), none, some (.int l4I), none, some (.int (0 : Int32)), none, none, none]) (wkLs.le ⟨rfl, rfl, rfl, rfl, trivial⟩) (ih.2 _ _ _ _ _ hW hE hl1A hl2A h)
      · rw [if_neg c1] at h
        refine wk_iload C dX4_carriesPairings_79 rfl ?_
        refine wk_iload C dX4_carriesPairings_81 rfl ?_
        refine wk_callN C hR (y := yX11_has) (host := "Witnessworks") (As := [.int l4I, .int l6I]) (cnt := 2) (tX11_has (l := l) hW  h) rfl (fun w h => ⟨hbX4_carriesPairings_X11_has w h, gdX11_has w h⟩) (by decide +kernel) (List.mem_of_getElem? (i := 1) rfl) (List.mem_of_getElem? (i := 2) rfl) (Nat.le_trans (by decide : 0 + 1 ≤ 3) hd) (by decide) ⟨by decide, by decide, by decide +kernel⟩ rfl rfl (Nat.le_of_ble_eq_true rfl) (Nat.le_refl 0) (Nat.le_refl 0) dX4_carriesPairings_83 (fun v' S3 hp => ?_)
        obtain ⟨v2, rfl, h, hWS3, hXS3⟩ := hp
        refine wk_if_eq C (tgt := 102) dX4_carriesPairings_86 (by decide) (fun c7 => ?_) (fun c7 => ?_)
        · rw [if_pos c7] at h
          refine wk_aload_n C dX4_carriesPairings_102 rfl rfl ?_
          refine wk_iload C dX4_carriesPairings_103 rfl ?_
          refine wk_iconst C (v := 1) dX4_carriesPairings_105 (by decide) ?_
          refine wk_iadd C dX4_carriesPairings_106 rfl ?_
          refine wk_iload_n C dX4_carriesPairings_107 rfl rfl ?_
          refine wk_iconst C (v := 1) dX4_carriesPairings_108 (by decide) ?_
          refine wk_iadd C dX4_carriesPairings_109 rfl ?_
          refine wk_iconst C (v := 1) dX4_carriesPairings_110 (by decide) ?_
          refine wk_callV C hR (As := [.int (l6I + (1 : Int32)), .int (l3I + (1 : Int32)), .int (1 : Int32)]) (cnt := 3) (tX3_addItem (l := l) hWS3 (hXS3 _ _ hl2A) h) rfl (wkGoodV (List.mem_of_getElem? (i := 3) rfl) (List.mem_of_getElem? (i := 4) rfl) (List.mem_of_getElem? (i := 5) rfl) (List.mem_of_getElem? (i := 6) rfl) hbX4_carriesPairings_X3_addItem gdX3_addItem) (Nat.le_trans (by decide : 0 + 1 ≤ 3) hd) (by decide) (hXS3 _ _ hl2A).1 (fun cy => wAt_3 cy _ (hXS3 _ _ hl2A).2) rfl ⟨by decide, by decide, by decide +kernel⟩ rfl rfl (Nat.le_of_ble_eq_true rfl) (Nat.le_refl 0) (Nat.le_refl 0) dX4_carriesPairings_111 (fun v' S9 hp => ?_)
          obtain ⟨v8, rfl, h, hWS9, hXS9⟩ := hp
          obtain ⟨x13, ex13, h⟩ := wkLt_some h
          refine wk_iinc C (lv' := [none, some (.ref l1A), some (.ref l2A), some (.int l3I), some (.int l4I), none, some (.int x13), none, none, none]) dX4_carriesPairings_114 rfl (by rw [ex13]; rfl) (by decide) rfl ?_
          refine wk_goto C (tgt := 73) dX4_carriesPairings_117 (by decide) ?_
          exact wk_forget (lv' := [none, some (.ref l1A), some (.ref l2A), some (.int l3I), some (.int l4I), none, some (.int x13), none, none, none]) (wkLs.le ⟨rfl, rfl, rfl, rfl, rfl, trivial⟩) (ih.1 _ _ _ _ _ _ hWS9 (wkExt.tr (wkExt.tr hE hXS3) hXS9) (hXS9 _ _ (hXS3 _ _ hl1A)) (hXS9 _ _ (hXS3 _ _ hl2A)) h)
        · rw [if_neg c7] at h
          refine wk_aload_n C dX4_carriesPairings_89 rfl rfl ?_
          refine wk_iconst C (v := 0) dX4_carriesPairings_90 (by decide) ?_
          refine wk_iload C dX4_carriesPairings_91 rfl ?_
          refine wk_iconst C (v := 1) dX4_carriesPairings_93 (by decide) ?_
          refine wk_iadd C dX4_carriesPairings_94 rfl ?_
          refine wk_iconst C (v := 1) dX4_carriesPairings_95 (by decide) ?_
          refine wk_callV C hR (As := [.int (0 : Int32), .int (l6I + (1 : Int32)), .int (1 : Int32)]) (cnt := 3) (tX3_addItem (l := l) hWS3 (hXS3 _ _ hl2A) h) rfl (wkGoodV (List.mem_of_getElem? (i := 3) rfl) (List.mem_of_getElem? (i := 4) rfl) (List.mem_of_getElem? (i := 5) rfl) (List.mem_of_getElem? (i := 6) rfl) hbX4_carriesPairings_X3_addItem gdX3_addItem) (Nat.le_trans (by decide : 0 + 1 ≤ 3) hd) (by decide) (hXS3 _ _ hl2A).1 (fun cy => wAt_3 cy _ (hXS3 _ _ hl2A).2) rfl ⟨by decide, by decide, by decide +kernel⟩ rfl rfl (Nat.le_of_ble_eq_true rfl) (Nat.le_refl 0) (Nat.le_refl 0) dX4_carriesPairings_96 (fun v' S15 hp => ?_)
          obtain ⟨v14, rfl, h, hWS15, hXS15⟩ := hp
          refine wk_goto C (tgt := 114) dX4_carriesPairings_99 (by decide) ?_
          obtain ⟨x19, ex19, h⟩ := wkLt_some h
          refine wk_iinc C (lv' := [none, some (.ref l1A), some (.ref l2A), some (.int l3I), some (.int l4I), none, some (.int x19), none, none, none]) dX4_carriesPairings_114 rfl (by rw [ex19]; rfl) (by decide) rfl ?_
          refine wk_goto C (tgt := 73) dX4_carriesPairings_117 (by decide) ?_
          exact wk_forget (lv' := [none, some (.ref l1A), some (.ref l2A), some (.int l3I), some (.int l4I), none, some (.int x19), none, none, none]) (wkLs.le ⟨rfl, rfl, rfl, rfl, rfl, trivial⟩) (ih.1 _ _ _ _ _ _ hWS15 (wkExt.tr (wkExt.tr hE hXS3) hXS15) (hXS15 _ _ (hXS3 _ _ hl1A)) (hXS15 _ _ (hXS3 _ _ hl2A)) h)
    · intro l1A l2A l4I l6I S hW hE hl1A hl2A h
      have h : rX4_carriesPairings_b1 F (rX4_carriesPairings_go F k') l1A l2A l4I l6I S Φ := by
        rw [rX4_carriesPairings_go, if_neg (show ¬ (1 : Nat) = 0 by decide), if_pos (rfl : (1 : Nat) = 1)] at h
        exact h
      unfold rX4_carriesPairings_b1 at h
      refine wk_iload C dX4_carriesPairings_123 rfl ?_
      refine wk_aload_n C dX4_carriesPairings_125 rfl rfl ?_
      refine wk_get C (v := .int (gEntry_itemCount S l1A)) huX4_carriesPairings_3 hl1A.1 (fun cy => wAt_3 cy _ hl1A.2) rfl 6 (by decide) (List.mem_of_getElem? (i := 7) rfl) rfl rfl dX4_carriesPairings_126 ?_
      refine wk_icmp_ge C (tgt := 200) dX4_carriesPairings_129 (by decide) (fun c20 => ?_) (fun c20 => ?_)
      · rw [if_pos c20] at h
        refine wk_iconst C (v := 1) dX4_carriesPairings_200 (by decide) ?_
        exact E _ _ _ _ _ _ (Nat.le_refl 0) (Nat.le_refl 0) dX4_carriesPairings_201 rfl ⟨(1 : Int32), rfl, h, hW, hE⟩
      · rw [if_neg c20] at h
        refine wk_aload_n C dX4_carriesPairings_132 rfl rfl ?_
        refine wk_iload C dX4_carriesPairings_133 rfl ?_
        refine wk_iconst C (v := 0) dX4_carriesPairings_135 (by decide) ?_
        refine wk_callV C hR (As := [.int l6I, .int (0 : Int32)]) (cnt := 2) (tX3_at (l := l) hW hl1A h) rfl (wkGoodV (List.mem_of_getElem? (i := 8) rfl) (List.mem_of_getElem? (i := 9) rfl) (List.mem_of_getElem? (i := 10) rfl) (List.mem_of_getElem? (i := 6) rfl) hbX4_carriesPairings_X3_at gdX3_at) (Nat.le_trans (by decide : 0 + 1 ≤ 3) hd) (by decide) hl1A.1 (fun cy => wAt_3 cy _ hl1A.2) rfl ⟨by decide, by decide, by decide +kernel⟩ rfl rfl (Nat.le_of_ble_eq_true rfl) (Nat.le_refl 0) (Nat.le_refl 0) dX4_carriesPairings_136 (fun v' S22 hp => ?_)
        obtain ⟨v21, rfl, h, hWS22, hXS22⟩ := hp
        refine wk_iconst C (v := 1) dX4_carriesPairings_139 (by decide) ?_
        refine wk_iadd C dX4_carriesPairings_140 rfl ?_
        obtain ⟨x26, ex26, h⟩ := wkLt_some h
        refine wk_topi ex26 ?_
        refine wk_istore C (lv' := [none, some (.ref l1A), some (.ref l2A), none, some (.int l4I), none, some (.int l6I), some (.int x26), none, none]) dX4_carriesPairings_141 (by decide) rfl ?_
        refine wk_aload_n C dX4_carriesPairings_143 rfl rfl ?_
        refine wk_iload C dX4_carriesPairings_144 rfl ?_
        refine wk_iconst C (v := 1) dX4_carriesPairings_146 (by decide) ?_
        refine wk_callV C hR (As := [.int l6I, .int (1 : Int32)]) (cnt := 2) (tX3_at (l := l) hWS22 (hXS22 _ _ hl1A) h) rfl (wkGoodV (List.mem_of_getElem? (i := 8) rfl) (List.mem_of_getElem? (i := 9) rfl) (List.mem_of_getElem? (i := 10) rfl) (List.mem_of_getElem? (i := 6) rfl) hbX4_carriesPairings_X3_at gdX3_at) (Nat.le_trans (by decide : 0 + 1 ≤ 3) hd) (by decide) (hXS22 _ _ hl1A).1 (fun cy => wAt_3 cy _ (hXS22 _ _ hl1A).2) rfl ⟨by decide, by decide, by decide +kernel⟩ rfl rfl (Nat.le_of_ble_eq_true rfl) (Nat.le_refl 0) (Nat.le_refl 0) dX4_carriesPairings_147 (fun v' S28 hp => ?_)
        obtain ⟨v27, rfl, h, hWS28, hXS28⟩ := hp
        refine wk_iconst C (v := 1) dX4_carriesPairings_150 (by decide) ?_
        refine wk_iadd C dX4_carriesPairings_151 rfl ?_
        obtain ⟨x32, ex32, h⟩ := wkLt_some h
        refine wk_topi ex32 ?_
        refine wk_istore C (lv' := [none, some (.ref l1A), some (.ref l2A), none, some (.int l4I), none, some (.int l6I), some (.int x26), some (.int x32), none]) dX4_carriesPairings_152 (by decide) rfl ?_
        refine wk_iload C dX4_carriesPairings_154 rfl ?_
        refine wk_iload C dX4_carriesPairings_156 rfl ?_
        refine wk_iconst C (v := 1) dX4_carriesPairings_158 (by decide) ?_
        refine wk_isub C dX4_carriesPairings_159 rfl ?_
        refine wk_callN C hR (y := yX11_has) (host := "Witnessworks") (As := [.int l4I, .int (x26 - (1 : Int32))]) (cnt := 2) (tX11_has (l := l) hWS28  h) rfl (fun w h => ⟨hbX4_carriesPairings_X11_has w h, gdX11_has w h⟩) (by decide +kernel) (List.mem_of_getElem? (i := 1) rfl) (List.mem_of_getElem? (i := 2) rfl) (Nat.le_trans (by decide : 0 + 1 ≤ 3) hd) (by decide) ⟨by decide, by decide, by decide +kernel⟩ rfl rfl (Nat.le_of_ble_eq_true rfl) (Nat.le_refl 0) (Nat.le_refl 0) dX4_carriesPairings_160 (fun v' S34 hp => ?_)
        obtain ⟨v33, rfl, h, hWS34, hXS34⟩ := hp
        refine wk_istore C (lv' := [none, some (.ref l1A), some (.ref l2A), none, some (.int l4I), none, some (.int l6I), some (.int x26), some (.int x32), some (.int v33)]) dX4_carriesPairings_163 (by decide) rfl ?_
        refine wk_aload_n C dX4_carriesPairings_165 rfl rfl ?_
        refine wk_iload C dX4_carriesPairings_166 rfl ?_
        refine wk_if_eq C (tgt := 176) dX4_carriesPairings_168 (by decide) (fun c38 => ?_) (fun c38 => ?_)
        · rw [if_pos c38] at h
          refine wk_iload C dX4_carriesPairings_176 rfl ?_
          refine wk_iload C dX4_carriesPairings_178 rfl ?_
          refine wk_if_eq C (tgt := 188) dX4_carriesPairings_180 (by decide) (fun c39 => ?_) (fun c39 => ?_)
          · rw [if_pos c39] at h
            refine wk_iload C dX4_carriesPairings_188 rfl ?_
            refine wk_iconst C (v := 1) dX4_carriesPairings_190 (by decide) ?_
            refine wk_callV C hR (As := [.int x32, .int x26, .int (1 : Int32)]) (cnt := 3) (tX3_addItem (l := l) hWS34 (hXS34 _ _ (hXS28 _ _ (hXS22 _ _ hl2A))) h) rfl (wkGoodV (List.mem_of_getElem? (i := 3) rfl) (List.mem_of_getElem? (i := 4) rfl) (List.mem_of_getElem? (i := 5) rfl) (List.mem_of_getElem? (i := 6) rfl) hbX4_carriesPairings_X3_addItem gdX3_addItem) (Nat.le_trans (by decide : 0 + 1 ≤ 3) hd) (by decide) (hXS34 _ _ (hXS28 _ _ (hXS22 _ _ hl2A))).1 (fun cy => wAt_3 cy _ (hXS34 _ _ (hXS28 _ _ (hXS22 _ _ hl2A))).2) rfl ⟨by decide, by decide, by decide +kernel⟩ rfl rfl (Nat.le_of_ble_eq_true rfl) (Nat.le_refl 0) (Nat.le_refl 0) dX4_carriesPairings_191 (fun v' S41 hp => ?_)
            obtain ⟨v40, rfl, h, hWS41, hXS41⟩ := hp
            obtain ⟨x45, ex45, h⟩ := wkLt_some h
            refine wk_iinc C (lv' := [none, some (.ref l1A), some (.ref l2A), none, some (.int l4I), none, some (.int x45), some (.int x26), some (.int x32), some (.int v33)]) dX4_carriesPairings_194 rfl (by rw [ex45]; rfl) (by decide) rfl ?_
            refine wk_goto C (tgt := 123) dX4_carriesPairings_197 (by decide) ?_
            exact wk_forget (lv' := [none, some (.ref l1A), some (.ref l2A), none, some (.int l4I), none, some (.int x45), none, none, none]) (wkLs.le ⟨rfl, rfl, rfl, rfl, trivial⟩) (ih.2 _ _ _ _ _ hWS41 (wkExt.tr (wkExt.tr (wkExt.tr (wkExt.tr hE hXS22) hXS28) hXS34) hXS41) (hXS41 _ _ (hXS34 _ _ (hXS28 _ _ (hXS22 _ _ hl1A)))) (hXS41 _ _ (hXS34 _ _ (hXS28 _ _ (hXS22 _ _ hl2A)))) h)
          · rw [if_neg c39] at h
            refine wk_iload C dX4_carriesPairings_183 rfl ?_
            refine wk_goto C (tgt := 190) dX4_carriesPairings_185 (by decide) ?_
            refine wk_iconst C (v := 1) dX4_carriesPairings_190 (by decide) ?_
            refine wk_callV C hR (As := [.int x32, .int x32, .int (1 : Int32)]) (cnt := 3) (tX3_addItem (l := l) hWS34 (hXS34 _ _ (hXS28 _ _ (hXS22 _ _ hl2A))) h) rfl (wkGoodV (List.mem_of_getElem? (i := 3) rfl) (List.mem_of_getElem? (i := 4) rfl) (List.mem_of_getElem? (i := 5) rfl) (List.mem_of_getElem? (i := 6) rfl) hbX4_carriesPairings_X3_addItem gdX3_addItem) (Nat.le_trans (by decide : 0 + 1 ≤ 3) hd) (by decide) (hXS34 _ _ (hXS28 _ _ (hXS22 _ _ hl2A))).1 (fun cy => wAt_3 cy _ (hXS34 _ _ (hXS28 _ _ (hXS22 _ _ hl2A))).2) rfl ⟨by decide, by decide, by decide +kernel⟩ rfl rfl (Nat.le_of_ble_eq_true rfl) (Nat.le_refl 0) (Nat.le_refl 0) dX4_carriesPairings_191 (fun v' S47 hp => ?_)
            obtain ⟨v46, rfl, h, hWS47, hXS47⟩ := hp
            obtain ⟨x51, ex51, h⟩ := wkLt_some h
            refine wk_iinc C (lv' := [none, some (.ref l1A), some (.ref l2A), none, some (.int l4I), none, some (.int x51), some (.int x26), some (.int x32), some (.int v33)]) dX4_carriesPairings_194 rfl (by rw [ex51]; rfl) (by decide) rfl ?_
            refine wk_goto C (tgt := 123) dX4_carriesPairings_197 (by decide) ?_
            exact wk_forget (lv' := [none, some (.ref l1A), some (.ref l2A), none, some (.int l4I), none, some (.int x51), none, none, none]) (wkLs.le ⟨rfl, rfl, rfl, rfl, trivial⟩) (ih.2 _ _ _ _ _ hWS47 (wkExt.tr (wkExt.tr (wkExt.tr (wkExt.tr hE hXS22) hXS28) hXS34) hXS47) (hXS47 _ _ (hXS34 _ _ (hXS28 _ _ (hXS22 _ _ hl1A)))) (hXS47 _ _ (hXS34 _ _ (hXS28 _ _ (hXS22 _ _ hl2A)))) h)
        · rw [if_neg c38] at h
          refine wk_iload C dX4_carriesPairings_171 rfl ?_
          refine wk_goto C (tgt := 178) dX4_carriesPairings_173 (by decide) ?_
          refine wk_iload C dX4_carriesPairings_178 rfl ?_
          refine wk_if_eq C (tgt := 188) dX4_carriesPairings_180 (by decide) (fun c52 => ?_) (fun c52 => ?_)
          · rw [if_pos c52] at h
            refine wk_iload C dX4_carriesPairings_188 rfl ?_
            refine wk_iconst C (v := 1) dX4_carriesPairings_190 (by decide) ?_
            refine wk_callV C hR (As := [.int x26, .int x26, .int (1 : Int32)]) (cnt := 3) (tX3_addItem (l := l) hWS34 (hXS34 _ _ (hXS28 _ _ (hXS22 _ _ hl2A))) h) rfl (wkGoodV (List.mem_of_getElem? (i := 3) rfl) (List.mem_of_getElem? (i := 4) rfl) (List.mem_of_getElem? (i := 5) rfl) (List.mem_of_getElem? (i := 6) rfl) hbX4_carriesPairings_X3_addItem gdX3_addItem) (Nat.le_trans (by decide : 0 + 1 ≤ 3) hd) (by decide) (hXS34 _ _ (hXS28 _ _ (hXS22 _ _ hl2A))).1 (fun cy => wAt_3 cy _ (hXS34 _ _ (hXS28 _ _ (hXS22 _ _ hl2A))).2) rfl ⟨by decide, by decide, by decide +kernel⟩ rfl rfl (Nat.le_of_ble_eq_true rfl) (Nat.le_refl 0) (Nat.le_refl 0) dX4_carriesPairings_191 (fun v' S54 hp => ?_)
            obtain ⟨v53, rfl, h, hWS54, hXS54⟩ := hp
            obtain ⟨x58, ex58, h⟩ := wkLt_some h
            refine wk_iinc C (lv' := [none, some (.ref l1A), some (.ref l2A), none, some (.int l4I), none, some (.int x58), some (.int x26), some (.int x32), some (.int v33)]) dX4_carriesPairings_194 rfl (by rw [ex58]; rfl) (by decide) rfl ?_
            refine wk_goto C (tgt := 123) dX4_carriesPairings_197 (by decide) ?_
            exact wk_forget (lv' := [none, some (.ref l1A), some (.ref l2A), none, some (.int l4I), none, some (.int x58), none, none, none]) (wkLs.le ⟨rfl, rfl, rfl, rfl, trivial⟩) (ih.2 _ _ _ _ _ hWS54 (wkExt.tr (wkExt.tr (wkExt.tr (wkExt.tr hE hXS22) hXS28) hXS34) hXS54) (hXS54 _ _ (hXS34 _ _ (hXS28 _ _ (hXS22 _ _ hl1A)))) (hXS54 _ _ (hXS34 _ _ (hXS28 _ _ (hXS22 _ _ hl2A)))) h)
          · rw [if_neg c52] at h
            refine wk_iload C dX4_carriesPairings_183 rfl ?_
            refine wk_goto C (tgt := 190) dX4_carriesPairings_185 (by decide) ?_
            refine wk_iconst C (v := 1) dX4_carriesPairings_190 (by decide) ?_
            refine wk_callV C hR (As := [.int x26, .int x32, .int (1 : Int32)]) (cnt := 3) (tX3_addItem (l := l) hWS34 (hXS34 _ _ (hXS28 _ _ (hXS22 _ _ hl2A))) h) rfl (wkGoodV (List.mem_of_getElem? (i := 3) rfl) (List.mem_of_getElem? (i := 4) rfl) (List.mem_of_getElem? (i := 5) rfl) (List.mem_of_getElem? (i := 6) rfl) hbX4_carriesPairings_X3_addItem gdX3_addItem) (Nat.le_trans (by decide : 0 + 1 ≤ 3) hd) (by decide) (hXS34 _ _ (hXS28 _ _ (hXS22 _ _ hl2A))).1 (fun cy => wAt_3 cy _ (hXS34 _ _ (hXS28 _ _ (hXS22 _ _ hl2A))).2) rfl ⟨by decide, by decide, by decide +kernel⟩ rfl rfl (Nat.le_of_ble_eq_true rfl) (Nat.le_refl 0) (Nat.le_refl 0) dX4_carriesPairings_191 (fun v' S60 hp => ?_)
            obtain ⟨v59, rfl, h, hWS60, hXS60⟩ := hp
            obtain ⟨x64, ex64, h⟩ := wkLt_some h
            refine wk_iinc C (lv' := [none, some (.ref l1A), some (.ref l2A), none, some (.int l4I), none, some (.int x64), some (.int x26), some (.int x32), some (.int v33)]) dX4_carriesPairings_194 rfl (by rw [ex64]; rfl) (by decide) rfl ?_
            refine wk_goto C (tgt := 123) dX4_carriesPairings_197 (by decide) ?_
            exact wk_forget (lv' := [none, some (.ref l1A), some (.ref l2A), none, some (.int l4I), none, some (.int x64), none, none, none]) (wkLs.le ⟨rfl, rfl, rfl, rfl, trivial⟩) (ih.2 _ _ _ _ _ hWS60 (wkExt.tr (wkExt.tr (wkExt.tr (wkExt.tr hE hXS22) hXS28) hXS34) hXS60) (hXS60 _ _ (hXS34 _ _ (hXS28 _ _ (hXS22 _ _ hl1A)))) (hXS60 _ _ (hXS34 _ _ (hXS28 _ _ (hXS22 _ _ hl2A)))) h)
set_option maxHeartbeats 4000000 in
set_option maxRecDepth 100000 in
theorem tX4_carriesPairings {l : Launch} {g : wkG} {F : Nat}  {S : wPS} {l0A : Nat} {l1A : Nat} {l2A : Nat} {Φ : (Int32 → wPS → Prop)} (hst : wkSta g) (hW : wkWF S) (hl0A : wkIs S l0A 4) (hl1A : wkIs S l1A 3) (hl2A : wkIs S l2A 3) (h : rX4_carriesPairings F l0A l1A l2A S Φ) : wkMet l g yX4_carriesPairings wvX4_carriesPairings 3 0 0 [.ref l0A, .ref l1A, .ref l2A] S (fun v' S'' => ∃ v : Int32, v' = some (.int v) ∧ Φ v S'' ∧ wkWF S'' ∧ wkExt S S'') := by
  refine wkMet_of (ret := (some .boolean)) (by decide) rfl (Nat.le_of_ble_eq_true rfl) (fun X hg C hR E => ?_)
  subst hg
  have hE : wkExt S S := wkExt.rf
  have hd : 3 ≤ 3 := Nat.le_refl _
  show wkGo l X 10 0 0 0 S [some (.ref l0A), some (.ref l1A), some (.ref l2A), none, none, none, none, none, none, none] []
  have ih := tX4_carriesPairings_go (F := F) hst C hR hd E F
  have h : rX4_carriesPairings_s F (rX4_carriesPairings_go F F) l0A l1A l2A S Φ := h
  unfold rX4_carriesPairings_s at h
  refine wk_aload_n C dX4_carriesPairings_0 rfl rfl ?_
  refine wk_get C (v := .int (gEntry_size S l1A)) huX4_carriesPairings_3 hl1A.1 (fun cy => wAt_3 cy _ hl1A.2) rfl 1 (by decide) (List.mem_of_getElem? (i := 11) rfl) rfl rfl dX4_carriesPairings_1 ?_
  obtain ⟨x65, ex65, h⟩ := wkLt_some h
  refine wk_topi ex65 ?_
  refine wk_istore_n C (lv' := [some (.ref l0A), some (.ref l1A), some (.ref l2A), some (.int x65), none, none, none, none, none, none]) dX4_carriesPairings_4 rfl (by decide) rfl ?_
  refine wk_aload_n C dX4_carriesPairings_5 rfl rfl ?_
  refine wk_aload_n C dX4_carriesPairings_6 rfl rfl ?_
  refine wk_callV C hR (As := [.ref l1A]) (cnt := 1) (tX4_leftSide (l := l) hW hl0A hl1A h) rfl (wkGoodV (List.mem_of_getElem? (i := 12) rfl) (List.mem_of_getElem? (i := 13) rfl) (List.mem_of_getElem? (i := 14) rfl) (List.mem_of_getElem? (i := 15) rfl) hbX4_carriesPairings_X4_leftSide gdX4_leftSide) (Nat.le_trans (by decide : 2 + 1 ≤ 3) hd) (by decide) hl0A.1 (fun cy => wAt_4 cy _ hl0A.2) rfl ⟨by decide, by decide, by decide +kernel⟩ rfl rfl (Nat.le_of_ble_eq_true rfl) (Nat.le_refl 0) (Nat.le_refl 0) dX4_carriesPairings_7 (fun v' S67 hp => ?_)
  obtain ⟨v66, rfl, h, hWS67, hXS67⟩ := hp
  refine wk_istore C (lv' := [some (.ref l0A), some (.ref l1A), some (.ref l2A), some (.int x65), some (.int v66), none, none, none, none, none]) dX4_carriesPairings_10 (by decide) rfl ?_
  refine wk_iload C dX4_carriesPairings_12 rfl ?_
  refine wk_if_lt C (tgt := 42) dX4_carriesPairings_14 (by decide) (fun c71 => ?_) (fun c71 => ?_)
  · rw [if_pos c71] at h
    refine wk_iconst C (v := 0) dX4_carriesPairings_42 (by decide) ?_
    exact E _ _ _ _ _ _ (Nat.le_refl 0) (Nat.le_refl 0) dX4_carriesPairings_43 rfl ⟨(0 : Int32), rfl, h, hWS67, (wkExt.tr hE hXS67)⟩
  · rw [if_neg c71] at h
    refine wk_iload_n C dX4_carriesPairings_17 rfl rfl ?_
    refine wk_iconst C (v := 2) dX4_carriesPairings_18 (by decide) ?_
    refine wk_iadd C dX4_carriesPairings_19 rfl ?_
    refine wk_getsN C rfl hst (i := 1) (by decide) (by decide) dX4_carriesPairings_20 ?_
    refine wk_iconst C (v := 1) dX4_carriesPairings_23 (by decide) ?_
    obtain ⟨i72, h⟩ := h
    refine wk_tabld C hst (i := 1) (by decide) i72 rfl dX4_carriesPairings_24 ?_
    refine wk_icmp_gt C (tgt := 42) dX4_carriesPairings_25 (by decide) (fun c73 => ?_) (fun c73 => ?_)
    · rw [if_pos c73] at h
      refine wk_iconst C (v := 0) dX4_carriesPairings_42 (by decide) ?_
      exact E _ _ _ _ _ _ (Nat.le_refl 0) (Nat.le_refl 0) dX4_carriesPairings_43 rfl ⟨(0 : Int32), rfl, h, hWS67, (wkExt.tr hE hXS67)⟩
    · rw [if_neg c73] at h
      refine wk_iload_n C dX4_carriesPairings_28 rfl rfl ?_
      refine wk_aload_n C dX4_carriesPairings_29 rfl rfl ?_
      refine wk_get C (v := .int (gEntry_itemCount S67 l1A)) huX4_carriesPairings_3 (hXS67 _ _ hl1A).1 (fun cy => wAt_3 cy _ (hXS67 _ _ hl1A).2) rfl 6 (by decide) (List.mem_of_getElem? (i := 7) rfl) rfl rfl dX4_carriesPairings_30 ?_
      refine wk_iadd C dX4_carriesPairings_33 rfl ?_
      refine wk_getsN C rfl hst (i := 4) (by decide) (by decide) dX4_carriesPairings_34 ?_
      refine wk_iconst C (v := 1) dX4_carriesPairings_37 (by decide) ?_
      obtain ⟨i74, h⟩ := h
      refine wk_tabld C hst (i := 4) (by decide) i74 rfl dX4_carriesPairings_38 ?_
      refine wk_icmp_le C (tgt := 44) dX4_carriesPairings_39 (by decide) (fun c75 => ?_) (fun c75 => ?_)
      · rw [if_pos c75] at h
        refine wk_iconst C (v := 0) dX4_carriesPairings_44 (by decide) ?_
        refine wk_iload_n C dX4_carriesPairings_45 rfl rfl ?_
        refine wk_aload_n C dX4_carriesPairings_46 rfl rfl ?_
        refine wk_get C (v := .int (gEntry_boundNow S67 l1A)) huX4_carriesPairings_3 (hXS67 _ _ hl1A).1 (fun cy => wAt_3 cy _ (hXS67 _ _ hl1A).2) rfl 8 (by decide) (List.mem_of_getElem? (i := 16) rfl) rfl rfl dX4_carriesPairings_47 ?_
        refine wk_isub C dX4_carriesPairings_50 rfl ?_
        refine wk_mmax C hR (List.mem_of_getElem? (i := 17) rfl) (List.mem_of_getElem? (i := 18) rfl) (List.mem_of_getElem? (i := 19) rfl) (List.mem_of_getElem? (i := 20) rfl) (Nat.le_trans (by decide) hd) (Nat.le_refl 0) (Nat.le_refl 0) (Nat.le_of_ble_eq_true rfl) rfl dX4_carriesPairings_51 ?_
        obtain ⟨x76, ex76, h⟩ := wkLt_some h
        refine wk_topi ex76 ?_
        refine wk_istore C (lv' := [some (.ref l0A), some (.ref l1A), some (.ref l2A), some (.int x65), some (.int v66), some (.int x76), none, none, none, none]) dX4_carriesPairings_54 (by decide) rfl ?_
        refine wk_aload_n C dX4_carriesPairings_56 rfl rfl ?_
        refine wk_iconst C (v := 1) dX4_carriesPairings_57 (by decide) ?_
        refine wk_iload_n C dX4_carriesPairings_58 rfl rfl ?_
        refine wk_iconst C (v := 2) dX4_carriesPairings_59 (by decide) ?_
        refine wk_iadd C dX4_carriesPairings_60 rfl ?_
        refine wk_iload C dX4_carriesPairings_61 rfl ?_
        refine wk_iconst C (v := 1) dX4_carriesPairings_63 (by decide) ?_
        refine wk_iadd C dX4_carriesPairings_64 rfl ?_
        refine wk_iconst C (v := 2) dX4_carriesPairings_65 (by decide) ?_
        refine wk_idiv C dX4_carriesPairings_66 (by decide) rfl ?_
        refine wk_callV C hR (As := [.int (1 : Int32), .int (x65 + (2 : Int32)), .int ((x76 + (1 : Int32)) / (2 : Int32))]) (cnt := 3) (tX3_begin (l := l) hWS67 (hXS67 _ _ hl2A) h) rfl (wkGoodV (List.mem_of_getElem? (i := 21) rfl) (List.mem_of_getElem? (i := 22) rfl) (List.mem_of_getElem? (i := 23) rfl) (List.mem_of_getElem? (i := 6) rfl) hbX4_carriesPairings_X3_begin gdX3_begin) (Nat.le_trans (by decide : 0 + 1 ≤ 3) hd) (by decide) (hXS67 _ _ hl2A).1 (fun cy => wAt_3 cy _ (hXS67 _ _ hl2A).2) rfl ⟨by decide, by decide, by decide +kernel⟩ rfl rfl (Nat.le_of_ble_eq_true rfl) (Nat.le_refl 0) (Nat.le_refl 0) dX4_carriesPairings_67 (fun v' S78 hp => ?_)
        obtain ⟨v77, rfl, h, hWS78, hXS78⟩ := hp
        refine wk_iconst C (v := 0) dX4_carriesPairings_70 (by decide) ?_
        refine wk_istore C (lv' := [some (.ref l0A), some (.ref l1A), some (.ref l2A), some (.int x65), some (.int v66), some (.int x76), some (.int (0 : Int32)), none, none, none]) dX4_carriesPairings_71 (by decide) rfl ?_
        exact wk_forget (lv' := [none, some (.ref l1A), some (.ref l2A), some (.int x65), some (.int v66), none, some (.int (0 : Int32)), none, none, none]) (wkLs.le ⟨rfl, rfl, rfl, rfl, rfl, trivial⟩) (ih.1 _ _ _ _ _ _ hWS78 (wkExt.tr (wkExt.tr hE hXS67) hXS78) (hXS78 _ _ (hXS67 _ _ hl1A)) (hXS78 _ _ (hXS67 _ _ hl2A)) h)
      · rw [if_neg c75] at h
        refine wk_iconst C (v := 0) dX4_carriesPairings_42 (by decide) ?_
        exact E _ _ _ _ _ _ (Nat.le_refl 0) (Nat.le_refl 0) dX4_carriesPairings_43 rfl ⟨(0 : Int32), rfl, h, hWS67, (wkExt.tr hE hXS67)⟩
