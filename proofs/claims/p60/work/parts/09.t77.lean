def wvX10_reachAll : List Cond := .code yX10_reachAll cX10_reachAll 6 (some .int) :: (([.fieldLink RX10 26 "Witnessworks$Words" "queue" "[I", .fieldLink RX10 20 "Witnessworks$Words" "points" "[I", .methodLink RX10 104 yX10_writePoints, .instanceMethod yX10_writePoints, .selects RX10 yX10_writePoints yX10_writePoints, .initialized RX10, .fieldLink RX10 84 "Witnessworks$Words" "lastUsed" "I", .fieldLink RX10 71 "Witnessworks$Words" "size" "I", .fieldLink RX10 23 "Witnessworks$Words" "ledPoints" "[I", .methodLink RX10 45 yX10_rankOf, .instanceMethod yX10_rankOf, .selects RX10 yX10_rankOf yX10_rankOf, .fieldLink RX10 32 "Witnessworks$Words" "cameBy" "[I", .fieldLink RX10 29 "Witnessworks$Words" "aheadOf" "[I", .fieldLink RX10 13 "Witnessworks$Words" "leads" "[[I", .methodLink RX10 94 yX10_loadItems, .instanceMethod yX10_loadItems, .selects RX10 yX10_loadItems yX10_loadItems, .methodLink RX10 98 yJ7_fill_53178, .static yJ7_fill_53178, .initialized RJ7] : List Cond) ++ ((wsX100) ++ (wvX10_writePoints ++ (wvX10_rankOf ++ (wvX10_loadItems ++ (wvJ7_fill_53178))))))
theorem huX10_reachAll_10 : ∀ w ∈ u_ws RX10 TX10 12, w ∈ wvX10_reachAll := fun w h => List.mem_cons_of_mem _ (List.mem_append_right _ (List.mem_append_left _ h))
theorem hbX10_reachAll_X10_writePoints : ∀ w ∈ wvX10_writePoints, w ∈ wvX10_reachAll := fun w h => List.mem_cons_of_mem _ (List.mem_append_right _ (List.mem_append_right _ (List.mem_append_left _ h)))
theorem hbX10_reachAll_X10_rankOf : ∀ w ∈ wvX10_rankOf, w ∈ wvX10_reachAll := fun w h => List.mem_cons_of_mem _ (List.mem_append_right _ (List.mem_append_right _ (List.mem_append_right _ (List.mem_append_left _ h))))
theorem hbX10_reachAll_X10_loadItems : ∀ w ∈ wvX10_loadItems, w ∈ wvX10_reachAll := fun w h => List.mem_cons_of_mem _ (List.mem_append_right _ (List.mem_append_right _ (List.mem_append_right _ (List.mem_append_right _ (List.mem_append_left _ h)))))
theorem hbX10_reachAll_J7_fill_53178 : ∀ w ∈ wvJ7_fill_53178, w ∈ wvX10_reachAll := fun w h => List.mem_cons_of_mem _ (List.mem_append_right _ (List.mem_append_right _ (List.mem_append_right _ (List.mem_append_right _ (List.mem_append_right _ h)))))
theorem gdX10_reachAll : ∀ w ∈ wvX10_reachAll, wkGd w := wkGdC rfl (wkGdA (wkGdL (by decide +kernel)) (wkGdA gdX10 (wkGdA gdX10_writePoints (wkGdA gdX10_rankOf (wkGdA gdX10_loadItems gdJ7_fill_53178)))))
def rX10_reachAll_b0 (F : Nat) (rec : Nat → Nat → Int32 → Int32 → Int32 → Int32 → wPS → (Int32 → wPS → Prop) → Prop) (l0A : Nat) (l2I : Int32) (l3I : Int32) (S : wPS) (Φ : (Int32 → wPS → Prop)) : Prop :=
  if l2I ≤ l3I then (Φ l2I S) else (¬ (l3I < 0 ∨ S.len (wkAd (gWords_queue S l0A)) ≤ (l3I).toNatClampNeg) ∧ rX10_writePoints F l0A (S.rI (wkAd (gWords_queue S l0A)) (l3I).toNatClampNeg) (wkAd (gWords_points S l0A)) S fun v3 S4 => rec 1 l0A l2I l3I (1 : Int32) 0 S4 Φ)
def rX10_reachAll_b1 (F : Nat) (rec : Nat → Nat → Int32 → Int32 → Int32 → Int32 → wPS → (Int32 → wPS → Prop) → Prop) (l0A : Nat) (l2I : Int32) (l3I : Int32) (l4I : Int32) (S : wPS) (Φ : (Int32 → wPS → Prop)) : Prop :=
  if (gWords_lastUsed S l0A) < l4I then (wkLt (l3I + (1 : Int32)) fun x9 => rec 0 l0A l2I x9 0 0 S Φ) else (rec 2 l0A l2I l3I l4I (0 : Int32) S Φ)
def rX10_reachAll_b2 (F : Nat) (rec : Nat → Nat → Int32 → Int32 → Int32 → Int32 → wPS → (Int32 → wPS → Prop) → Prop) (l0A : Nat) (l2I : Int32) (l3I : Int32) (l4I : Int32) (l5I : Int32) (S : wPS) (Φ : (Int32 → wPS → Prop)) : Prop :=
  if (gWords_size S l0A) ≤ l5I then (rX10_rankOf F l0A (wkAd (gWords_ledPoints S l0A)) S fun v11 S12 => ¬ (v11 < 0 ∨ S12.len (wkAd (gWords_cameBy S12 l0A)) ≤ (v11).toNatClampNeg) ∧ if 0 ≤ (S12.rI (wkAd (gWords_cameBy S12 l0A)) (v11).toNatClampNeg) then (wkLt (l4I + (1 : Int32)) fun x18 => rec 1 l0A l2I l3I x18 0 S12 Φ) else (if (720 : Int32) ≤ l2I then (wkLt (l4I + (1 : Int32)) fun x20 => rec 1 l0A l2I l3I x20 0 S12 Φ) else (¬ (v11 < 0 ∨ S12.len (wkAd (gWords_cameBy S12 l0A)) ≤ (v11).toNatClampNeg) ∧ wkLt (wuI S12 (wkAd (gWords_cameBy S12 l0A)) v11 l4I) fun S22 => ¬ (l3I < 0 ∨ S22.len (wkAd (gWords_queue S22 l0A)) ≤ (l3I).toNatClampNeg) ∧ ¬ (v11 < 0 ∨ S22.len (wkAd (gWords_aheadOf S22 l0A)) ≤ (v11).toNatClampNeg) ∧ wkLt (wuI S22 (wkAd (gWords_aheadOf S22 l0A)) v11 (S22.rI (wkAd (gWords_queue S22 l0A)) (l3I).toNatClampNeg)) fun S25 => ¬ (l2I < 0 ∨ S25.len (wkAd (gWords_queue S25 l0A)) ≤ (l2I).toNatClampNeg) ∧ wkLt (wuI S25 (wkAd (gWords_queue S25 l0A)) l2I v11) fun S27 => wkLt (l2I + (1 : Int32)) fun x28 => wkLt (l4I + (1 : Int32)) fun x29 => rec 1 l0A x28 l3I x29 0 S27 Φ))) else (¬ (l4I < 0 ∨ S.len (wkAd (gWords_leads S l0A)) ≤ (l4I).toNatClampNeg) ∧ ¬ (l5I < 0 ∨ S.len (wkAd (gWords_points S l0A)) ≤ (l5I).toNatClampNeg) ∧ ¬ ((S.rI (wkAd (gWords_points S l0A)) (l5I).toNatClampNeg) < 0 ∨ S.len (wkAd (S.rA (wkAd (gWords_leads S l0A)) (l4I).toNatClampNeg)) ≤ ((S.rI (wkAd (gWords_points S l0A)) (l5I).toNatClampNeg)).toNatClampNeg) ∧ ¬ (l5I < 0 ∨ S.len (wkAd (gWords_ledPoints S l0A)) ≤ (l5I).toNatClampNeg) ∧ wkLt (wuI S (wkAd (gWords_ledPoints S l0A)) l5I (S.rI (wkAd (S.rA (wkAd (gWords_leads S l0A)) (l4I).toNatClampNeg)) ((S.rI (wkAd (gWords_points S l0A)) (l5I).toNatClampNeg)).toNatClampNeg)) fun S35 => wkLt (l5I + (1 : Int32)) fun x36 => rec 2 l0A l2I l3I l4I x36 S35 Φ)
def rX10_reachAll_go (F : Nat) : Nat → Nat → Nat → Int32 → Int32 → Int32 → Int32 → wPS → (Int32 → wPS → Prop) → Prop
  | 0, _, _, _, _, _, _, _, _ => False
  | k' + 1, lab, l0A, l2I, l3I, l4I, l5I, S, Φ => if lab = 0 then rX10_reachAll_b0 F (rX10_reachAll_go F k') l0A l2I l3I S Φ else if lab = 1 then rX10_reachAll_b1 F (rX10_reachAll_go F k') l0A l2I l3I l4I S Φ else if lab = 2 then rX10_reachAll_b2 F (rX10_reachAll_go F k') l0A l2I l3I l4I l5I S Φ else False
def rX10_reachAll_s (F : Nat) (rec : Nat → Nat → Int32 → Int32 → Int32 → Int32 → wPS → (Int32 → wPS → Prop) → Prop) (l0A : Nat) (l1A : Nat) (S : wPS) (Φ : (Int32 → wPS → Prop)) : Prop :=
  rX10_loadItems F l0A l1A S fun v37 S38 => rJ7_fill_53178 F (wkAd (gWords_cameBy S38 l0A)) (-1 : Int32) S38 fun v42 S43 => ¬ ((0 : Int32) < 0 ∨ S43.len (wkAd (gWords_queue S43 l0A)) ≤ ((0 : Int32)).toNatClampNeg) ∧ wkLt (wuI S43 (wkAd (gWords_queue S43 l0A)) (0 : Int32) (0 : Int32)) fun S48 => ¬ ((0 : Int32) < 0 ∨ S48.len (wkAd (gWords_cameBy S48 l0A)) ≤ ((0 : Int32)).toNatClampNeg) ∧ wkLt (wuI S48 (wkAd (gWords_cameBy S48 l0A)) (0 : Int32) (0 : Int32)) fun S50 => rec 0 l0A (1 : Int32) (0 : Int32) 0 0 S50 Φ
def rX10_reachAll (F : Nat) (l0A : Nat) (l1A : Nat) (S : wPS) (Φ : (Int32 → wPS → Prop)) : Prop := rX10_reachAll_s F (rX10_reachAll_go F F) l0A l1A S Φ
set_option maxHeartbeats 4000000 in
set_option maxRecDepth 100000 in
theorem tX10_reachAll_go {l : Launch} {X : wkX} {d F : Nat} {S0 : wPS} {Φ : (Int32 → wPS → Prop)} (C : wkC X cX10_reachAll RX10 6 wvX10_reachAll) (hR : wkRm X d 0 0) (hd : 3 ≤ d) (E : wkEnd l X cX10_reachAll 6 (some .int) 0 0 (fun v' S'' => ∃ v : Int32, v' = some (.int v) ∧ Φ v S'' ∧ wkWF S'' ∧ wkExt S0 S'')) : ∀ k' : Nat, (∀ (l0A : Nat) (l2I : Int32) (l3I : Int32) (S : wPS), wkWF S → wkExt S0 S → wkIs S l0A 10 → rX10_reachAll_go F k' 0 l0A l2I l3I 0 0 S Φ → wkGo l X 6 0 0 31 S [some (.ref l0A), none, some (.int l2I), some (.int l3I), none, none] []) ∧ (∀ (l0A : Nat) (l2I : Int32) (l3I : Int32) (l4I : Int32) (S : wPS), wkWF S → wkExt S0 S → wkIs S l0A 10 → rX10_reachAll_go F k' 1 l0A l2I l3I l4I 0 S Φ → wkGo l X 6 0 0 53 S [some (.ref l0A), none, some (.int l2I), some (.int l3I), some (.int l4I), none] []) ∧ (∀ (l0A : Nat) (l2I : Int32) (l3I : Int32) (l4I : Int32) (l5I : Int32) (S : wPS), wkWF S → wkExt S0 S → wkIs S l0A 10 → rX10_reachAll_go F k' 2 l0A l2I l3I l4I l5I S Φ → wkGo l X 6 0 0 65 S [some (.ref l0A), none, some (.int l2I), some (.int l3I), some (.int l4I), some (.int l5I)] []) := by
  intro k'
  induction k' with
  | zero => exact ⟨fun l0A l2I l3I S hW hE hl0A h => h.elim, fun l0A l2I l3I l4I S hW hE hl0A h => h.elim, fun l0A l2I l3I l4I l5I S hW hE hl0A h => h.elim⟩
  | succ k' ih =>
    refine ⟨?_, ?_, ?_⟩
    · intro l0A l2I l3I S hW hE hl0A h
      have h : rX10_reachAll_b0 F (rX10_reachAll_go F k') l0A l2I l3I S Φ := by
        rw [rX10_reachAll_go, if_pos (rfl : (0 : Nat) = 0)] at h
        exact h
      unfold rX10_reachAll_b0 at h
      refine wk_iload_n C dX10_reachAll_31 rfl rfl ?_
      refine wk_iload_n C dX10_reachAll_32 rfl rfl ?_
      refine wk_icmp_ge C (tgt := 174) dX10_reachAll_33 (by decide) (fun c1 => ?_) (fun c1 => ?_)
      · rw [if_pos c1] at h
        refine wk_iload_n C dX10_reachAll_174 rfl rfl ?_
        exact E _ _ _ _ _ _ (Nat.le_refl 0) (Nat.le_refl 0) dX10_reachAll_175 ⟨l2I, rfl, h, hW, hE⟩
      · rw [if_neg c1] at h
        refine wk_aload_n C dX10_reachAll_36 rfl rfl ?_
        refine wk_aload_n C dX10_reachAll_37 rfl rfl ?_
        refine wk_get C huX10_reachAll_10 hl0A.1 (fun cy => wAt_10 cy _ hl0A.2) rfl 4 (by decide) (List.mem_of_getElem? (i := 1) rfl) rfl (congrArg some (congrArg va_rf (wf_Words_queue hW hl0A).1)) dX10_reachAll_38 ?_
        refine wk_iload_n C dX10_reachAll_41 rfl rfl ?_
        obtain ⟨i2, h⟩ := h
        refine wk_iald C (wf_Words_queue hW hl0A).2.1 (wf_Words_queue hW hl0A).2.2 i2 rfl dX10_reachAll_42 ?_
        refine wk_aload_n C dX10_reachAll_43 rfl rfl ?_
        refine wk_get C huX10_reachAll_10 hl0A.1 (fun cy => wAt_10 cy _ hl0A.2) rfl 2 (by decide) (List.mem_of_getElem? (i := 2) rfl) rfl (congrArg some (congrArg va_rf (wf_Words_points hW hl0A).1)) dX10_reachAll_44 ?_
        refine wk_callV C hR (As := [.int (S.rI (wkAd (gWords_queue S l0A)) (l3I).toNatClampNeg), .ref (wkAd (gWords_points S l0A))]) (cnt := 2) (tX10_writePoints (l := l) hW hl0A (wf_Words_points hW hl0A).2 h) rfl (wkGoodV (List.mem_of_getElem? (i := 3) rfl) (List.mem_of_getElem? (i := 4) rfl) (List.mem_of_getElem? (i := 5) rfl) (List.mem_of_getElem? (i := 6) rfl) hbX10_reachAll_X10_writePoints gdX10_writePoints) (Nat.le_trans (by decide : 2 + 1 ≤ 3) hd) (by decide) hl0A.1 (fun cy => wAt_10 cy _ hl0A.2) rfl ⟨by decide, by decide, by decide +kernel⟩ rfl rfl (Nat.le_of_ble_eq_true rfl) (Nat.le_refl 0) (Nat.le_refl 0) dX10_reachAll_47 (fun v' S4 hp => ?_)
        obtain ⟨v3, rfl, h, hWS4, hXS4⟩ := hp
        refine wk_iconst C (v := 1) dX10_reachAll_50 (by decide) ?_
        refine wk_istore C (lv' := [some (.ref l0A), none, some (.int l2I), some (.int l3I), some (.int (1 : Int32)), none]) dX10_reachAll_51 (by decide) rfl ?_
        exact wk_forget (lv' := [some (.ref l0A), none, some (.int l2I), some (.int l3I), some (.int (1 : Int32)), none]) (wkLs.le ⟨rfl, rfl, rfl, rfl, trivial⟩) (ih.2.1 _ _ _ _ _ hWS4 (wkExt.tr hE hXS4) (hXS4 _ _ hl0A) h)
    · intro l0A l2I l3I l4I S hW hE hl0A h
      have h : rX10_reachAll_b1 F (rX10_reachAll_go F k') l0A l2I l3I l4I S Φ := by
        rw [rX10_reachAll_go, if_neg (show ¬ (1 : Nat) = 0 by decide), if_pos (rfl : (1 : Nat) = 1)] at h
        exact h
      unfold rX10_reachAll_b1 at h
      refine wk_iload C dX10_reachAll_53 rfl ?_
      refine wk_aload_n C dX10_reachAll_55 rfl rfl ?_
      refine wk_get C (v := .int (gWords_lastUsed S l0A)) huX10_reachAll_10 hl0A.1 (fun cy => wAt_10 cy _ hl0A.2) rfl 11 (by decide) (List.mem_of_getElem? (i := 7) rfl) rfl rfl dX10_reachAll_56 ?_
      refine wk_icmp_gt C (tgt := 168) dX10_reachAll_59 (by decide) (fun c8 => ?_) (fun c8 => ?_)
      · rw [if_pos c8] at h
        obtain ⟨x9, ex9, h⟩ := wkLt_some h
        refine wk_iinc C (lv' := [some (.ref l0A), none, some (.int l2I), some (.int x9), some (.int l4I), none]) dX10_reachAll_168 rfl (by rw [ex9]; rfl) (by decide) rfl ?_
        refine wk_goto C (tgt := 31) dX10_reachAll_171 (by decide) ?_
        exact wk_forget (lv' := [some (.ref l0A), none, some (.int l2I), some (.int x9), none, none]) (wkLs.le ⟨rfl, rfl, rfl, trivial⟩) (ih.1 _ _ _ _ hW hE hl0A h)
      · rw [if_neg c8] at h
        refine wk_iconst C (v := 0) dX10_reachAll_62 (by decide) ?_
        refine wk_istore C (lv' := [some (.ref l0A), none, some (.int l2I), some (.int l3I), some (.int l4I), some (.int (0 : Int32))]) dX10_reachAll_63 (by decide) rfl ?_
        exact wk_forget (lv' := [some (.ref l0A), none, some (.int l2I), some (.int l3I), some (.int l4I), some (.int (0 : Int32))]) (wkLs.le ⟨rfl, rfl, rfl, rfl, rfl, trivial⟩) (ih.2.2 _ _ _ _ _ _ hW hE hl0A h)
    · intro l0A l2I l3I l4I l5I S hW hE hl0A h
      have h : rX10_reachAll_b2 F (rX10_reachAll_go F k') l0A l2I l3I l4I l5I S Φ := by
        rw [rX10_reachAll_go, if_neg (show ¬ (2 : Nat) = 0 by decide), if_neg (show ¬ (2 : Nat) = 1 by decide), if_pos (rfl : (2 : Nat) = 2)] at h
        exact h
      unfold rX10_reachAll_b2 at h
      refine wk_iload C dX10_reachAll_65 rfl ?_
      refine wk_aload_n C dX10_reachAll_67 rfl rfl ?_
      refine wk_get C (v := .int (gWords_size S l0A)) huX10_reachAll_10 hl0A.1 (fun cy => wAt_10 cy _ hl0A.2) rfl 10 (by decide) (List.mem_of_getElem? (i := 8) rfl) rfl rfl dX10_reachAll_68 ?_
      refine wk_icmp_ge C (tgt := 102) dX10_reachAll_71 (by decide) (fun c10 => ?_) (fun c10 => ?_)
      · rw [if_pos c10] at h
        refine wk_aload_n C dX10_reachAll_102 rfl rfl ?_
        refine wk_aload_n C dX10_reachAll_103 rfl rfl ?_
        refine wk_get C huX10_reachAll_10 hl0A.1 (fun cy => wAt_10 cy _ hl0A.2) rfl 3 (by decide) (List.mem_of_getElem? (i := 9) rfl) rfl (congrArg some (congrArg va_rf (wf_Words_ledPoints hW hl0A).1)) dX10_reachAll_104 ?_
        refine wk_callV C hR (As := [.ref (wkAd (gWords_ledPoints S l0A))]) (cnt := 1) (tX10_rankOf (l := l) hW hl0A (wf_Words_ledPoints hW hl0A).2 h) rfl (wkGoodV (List.mem_of_getElem? (i := 10) rfl) (List.mem_of_getElem? (i := 11) rfl) (List.mem_of_getElem? (i := 12) rfl) (List.mem_of_getElem? (i := 6) rfl) hbX10_reachAll_X10_rankOf gdX10_rankOf) (Nat.le_trans (by decide : 0 + 1 ≤ 3) hd) (by decide) hl0A.1 (fun cy => wAt_10 cy _ hl0A.2) rfl ⟨by decide, by decide, by decide +kernel⟩ rfl rfl (Nat.le_of_ble_eq_true rfl) (Nat.le_refl 0) (Nat.le_refl 0) dX10_reachAll_107 (fun v' S12 hp => ?_)
        obtain ⟨v11, rfl, h, hWS12, hXS12⟩ := hp
        refine wk_istore C (lv' := [some (.ref l0A), none, some (.int l2I), some (.int l3I), some (.int l4I), some (.int v11)]) dX10_reachAll_110 (by decide) rfl ?_
        refine wk_aload_n C dX10_reachAll_112 rfl rfl ?_
        refine wk_get C huX10_reachAll_10 (hXS12 _ _ hl0A).1 (fun cy => wAt_10 cy _ (hXS12 _ _ hl0A).2) rfl 6 (by decide) (List.mem_of_getElem? (i := 13) rfl) rfl (congrArg some (congrArg va_rf (wf_Words_cameBy hWS12 (hXS12 _ _ hl0A)).1)) dX10_reachAll_113 ?_
        refine wk_iload C dX10_reachAll_116 rfl ?_
        obtain ⟨i16, h⟩ := h
        refine wk_iald C (wf_Words_cameBy hWS12 (hXS12 _ _ hl0A)).2.1 (wf_Words_cameBy hWS12 (hXS12 _ _ hl0A)).2.2 i16 rfl dX10_reachAll_118 ?_
        refine wk_if_ge C (tgt := 162) dX10_reachAll_119 (by decide) (fun c17 => ?_) (fun c17 => ?_)
        · rw [if_pos c17] at h
          obtain ⟨x18, ex18, h⟩ := wkLt_some h
          refine wk_iinc C (lv' := [some (.ref l0A), none, some (.int l2I), some (.int l3I), some (.int x18), some (.int v11)]) dX10_reachAll_162 rfl (by rw [ex18]; rfl) (by decide) rfl ?_
          refine wk_goto C (tgt := 53) dX10_reachAll_165 (by decide) ?_
          exact wk_forget (lv' := [some (.ref l0A), none, some (.int l2I), some (.int l3I), some (.int x18), none]) (wkLs.le ⟨rfl, rfl, rfl, rfl, trivial⟩) (ih.2.1 _ _ _ _ _ hWS12 (wkExt.tr hE hXS12) (hXS12 _ _ hl0A) h)
        · rw [if_neg c17] at h
          refine wk_iload_n C dX10_reachAll_122 rfl rfl ?_
          refine wk_sipush C (v := 720) dX10_reachAll_123 (by decide) ?_
          refine wk_icmp_ge C (tgt := 162) dX10_reachAll_126 (by decide) (fun c19 => ?_) (fun c19 => ?_)
          · rw [if_pos c19] at h
            obtain ⟨x20, ex20, h⟩ := wkLt_some h
            refine wk_iinc C (lv' := [some (.ref l0A), none, some (.int l2I), some (.int l3I), some (.int x20), some (.int v11)]) dX10_reachAll_162 rfl (by rw [ex20]; rfl) (by decide) rfl ?_
            refine wk_goto C (tgt := 53) dX10_reachAll_165 (by decide) ?_
            exact wk_forget (lv' := [some (.ref l0A), none, some (.int l2I), some (.int l3I), some (.int x20), none]) (wkLs.le ⟨rfl, rfl, rfl, rfl, trivial⟩) (ih.2.1 _ _ _ _ _ hWS12 (wkExt.tr hE hXS12) (hXS12 _ _ hl0A) h)
          · rw [if_neg c19] at h
            refine wk_aload_n C dX10_reachAll_129 rfl rfl ?_
            refine wk_get C huX10_reachAll_10 (hXS12 _ _ hl0A).1 (fun cy => wAt_10 cy _ (hXS12 _ _ hl0A).2) rfl 6 (by decide) (List.mem_of_getElem? (i := 13) rfl) rfl (congrArg some (congrArg va_rf (wf_Words_cameBy hWS12 (hXS12 _ _ hl0A)).1)) dX10_reachAll_130 ?_
            refine wk_iload C dX10_reachAll_133 rfl ?_
            refine wk_iload C dX10_reachAll_135 rfl ?_
            obtain ⟨i21, h⟩ := h
            obtain ⟨S22, eS22, h⟩ := wkLt_some h
            refine wk_iast C (wf_Words_cameBy hWS12 (hXS12 _ _ hl0A)).2.1 (wf_Words_cameBy hWS12 (hXS12 _ _ hl0A)).2.2 i21 eS22.symm dX10_reachAll_137 ?_
            have hWS22 : wkWF S22 := by rw [eS22]; exact hWS12
            have hXS22 : wkExt S12 S22 := by rw [eS22]; exact wkExt.rf
            refine wk_aload_n C dX10_reachAll_138 rfl rfl ?_
            refine wk_get C huX10_reachAll_10 (hXS22 _ _ (hXS12 _ _ hl0A)).1 (fun cy => wAt_10 cy _ (hXS22 _ _ (hXS12 _ _ hl0A)).2) rfl 5 (by decide) (List.mem_of_getElem? (i := 14) rfl) rfl (congrArg some (congrArg va_rf (wf_Words_aheadOf hWS22 (hXS22 _ _ (hXS12 _ _ hl0A))).1)) dX10_reachAll_139 ?_
            refine wk_iload C dX10_reachAll_142 rfl ?_
            refine wk_aload_n C dX10_reachAll_144 rfl rfl ?_
            refine wk_get C huX10_reachAll_10 (hXS22 _ _ (hXS12 _ _ hl0A)).1 (fun cy => wAt_10 cy _ (hXS22 _ _ (hXS12 _ _ hl0A)).2) rfl 4 (by decide) (List.mem_of_getElem? (i := 1) rfl) rfl (congrArg some (congrArg va_rf (wf_Words_queue hWS22 (hXS22 _ _ (hXS12 _ _ hl0A))).1)) dX10_reachAll_145 ?_
            refine wk_iload_n C dX10_reachAll_148 rfl rfl ?_
            obtain ⟨i23, h⟩ := h
            refine wk_iald C (wf_Words_queue hWS22 (hXS22 _ _ (hXS12 _ _ hl0A))).2.1 (wf_Words_queue hWS22 (hXS22 _ _ (hXS12 _ _ hl0A))).2.2 i23 rfl dX10_reachAll_149 ?_
            obtain ⟨i24, h⟩ := h
            obtain ⟨S25, eS25, h⟩ := wkLt_some h
            refine wk_iast C (wf_Words_aheadOf hWS22 (hXS22 _ _ (hXS12 _ _ hl0A))).2.1 (wf_Words_aheadOf hWS22 (hXS22 _ _ (hXS12 _ _ hl0A))).2.2 i24 eS25.symm dX10_reachAll_150 ?_
            have hWS25 : wkWF S25 := by rw [eS25]; exact hWS22
            have hXS25 : wkExt S22 S25 := by rw [eS25]; exact wkExt.rf
            refine wk_aload_n C dX10_reachAll_151 rfl rfl ?_
            refine wk_get C huX10_reachAll_10 (hXS25 _ _ (hXS22 _ _ (hXS12 _ _ hl0A))).1 (fun cy => wAt_10 cy _ (hXS25 _ _ (hXS22 _ _ (hXS12 _ _ hl0A))).2) rfl 4 (by decide) (List.mem_of_getElem? (i := 1) rfl) rfl (congrArg some (congrArg va_rf (wf_Words_queue hWS25 (hXS25 _ _ (hXS22 _ _ (hXS12 _ _ hl0A)))).1)) dX10_reachAll_152 ?_
            refine wk_iload_n C dX10_reachAll_155 rfl rfl ?_
            refine wk_iload C dX10_reachAll_156 rfl ?_
            obtain ⟨i26, h⟩ := h
            obtain ⟨S27, eS27, h⟩ := wkLt_some h
            refine wk_iast C (wf_Words_queue hWS25 (hXS25 _ _ (hXS22 _ _ (hXS12 _ _ hl0A)))).2.1 (wf_Words_queue hWS25 (hXS25 _ _ (hXS22 _ _ (hXS12 _ _ hl0A)))).2.2 i26 eS27.symm dX10_reachAll_158 ?_
            have hWS27 : wkWF S27 := by rw [eS27]; exact hWS25
            have hXS27 : wkExt S25 S27 := by rw [eS27]; exact wkExt.rf
            obtain ⟨x28, ex28, h⟩ := wkLt_some h
            refine wk_iinc C (lv' := [some (.ref l0A), none, some (.int x28), some (.int l3I), some (.int l4I), some (.int v11)]) dX10_reachAll_159 rfl (by rw [ex28]; rfl) (by decide) rfl ?_
            obtain ⟨x29, ex29, h⟩ := wkLt_some h
            refine wk_iinc C (lv' := [some (.ref l0A), none, some (.int x28), some (.int l3I), some (.int x29), some (.int v11)]) dX10_reachAll_162 rfl (by rw [ex29]; rfl) (by decide) rfl ?_
            refine wk_goto C (tgt := 53) dX10_reachAll_165 (by decide) ?_
            exact wk_forget (lv' := [some (.ref l0A), none, some (.int x28), some (.int l3I), some (.int x29), none]) (wkLs.le ⟨rfl, rfl, rfl, rfl, trivial⟩) (ih.2.1 _ _ _ _ _ hWS27 (wkExt.tr (wkExt.tr (wkExt.tr (wkExt.tr hE hXS12) hXS22) hXS25) hXS27) (hXS27 _ _ (hXS25 _ _ (hXS22 _ _ (hXS12 _ _ hl0A)))) h)
      · rw [if_neg c10] at h
        refine wk_aload_n C dX10_reachAll_74 rfl rfl ?_
        refine wk_get C huX10_reachAll_10 hl0A.1 (fun cy => wAt_10 cy _ hl0A.2) rfl 3 (by decide) (List.mem_of_getElem? (i := 9) rfl) rfl (congrArg some (congrArg va_rf (wf_Words_ledPoints hW hl0A).1)) dX10_reachAll_75 ?_
        refine wk_iload C dX10_reachAll_78 rfl ?_
        refine wk_aload_n C dX10_reachAll_80 rfl rfl ?_
        refine wk_get C huX10_reachAll_10 hl0A.1 (fun cy => wAt_10 cy _ hl0A.2) rfl 0 (by decide) (List.mem_of_getElem? (i := 15) rfl) rfl (congrArg some (congrArg va_rf (wf_Words_leads hW hl0A).1)) dX10_reachAll_81 ?_
        refine wk_iload C dX10_reachAll_84 rfl ?_
        obtain ⟨i30, h⟩ := h
        have w31 := wf_R_I hW (wf_Words_leads hW hl0A).2 (Nat.not_le.mp fun q => i30 (Or.inr q))
        refine wk_aald_I C (wf_Words_leads hW hl0A).2.1 (wf_Words_leads hW hl0A).2.2 i30 w31.1 dX10_reachAll_86 ?_
        refine wk_aload_n C dX10_reachAll_87 rfl rfl ?_
        refine wk_get C huX10_reachAll_10 hl0A.1 (fun cy => wAt_10 cy _ hl0A.2) rfl 2 (by decide) (List.mem_of_getElem? (i := 2) rfl) rfl (congrArg some (congrArg va_rf (wf_Words_points hW hl0A).1)) dX10_reachAll_88 ?_
        refine wk_iload C dX10_reachAll_91 rfl ?_
        obtain ⟨i32, h⟩ := h
        refine wk_iald C (wf_Words_points hW hl0A).2.1 (wf_Words_points hW hl0A).2.2 i32 rfl dX10_reachAll_93 ?_
        obtain ⟨i33, h⟩ := h
        refine wk_iald C w31.2.1 w31.2.2 i33 rfl dX10_reachAll_94 ?_
        obtain ⟨i34, h⟩ := h
        obtain ⟨S35, eS35, h⟩ := wkLt_some h
        refine wk_iast C (wf_Words_ledPoints hW hl0A).2.1 (wf_Words_ledPoints hW hl0A).2.2 i34 eS35.symm dX10_reachAll_95 ?_
        have hWS35 : wkWF S35 := by rw [eS35]; exact hW
        have hXS35 : wkExt S S35 := by rw [eS35]; exact wkExt.rf
        obtain ⟨x36, ex36, h⟩ := wkLt_some h
        refine wk_iinc C (lv' := [some (.ref l0A), none, some (.int l2I), some (.int l3I), some (.int l4I), some (.int x36)]) dX10_reachAll_96 rfl (by rw [ex36]; rfl) (by decide) rfl ?_
        refine wk_goto C (tgt := 65) dX10_reachAll_99 (by decide) ?_
        exact wk_forget (lv' := [some (.ref l0A), none, some (.int l2I), some (.int l3I), some (.int l4I), some (.int x36)]) (wkLs.le ⟨rfl, rfl, rfl, rfl, rfl, trivial⟩) (ih.2.2 _ _ _ _ _ _ hWS35 (wkExt.tr hE hXS35) (hXS35 _ _ hl0A) h)
set_option maxHeartbeats 4000000 in
set_option maxRecDepth 100000 in
theorem tX10_reachAll {l : Launch} {g : wkG} {F : Nat}  {S : wPS} {l0A : Nat} {l1A : Nat} {Φ : (Int32 → wPS → Prop)} (hW : wkWF S) (hl0A : wkIs S l0A 10) (hl1A : wkIs S l1A 3) (h : rX10_reachAll F l0A l1A S Φ) : wkMet l g yX10_reachAll wvX10_reachAll 3 0 0 [.ref l0A, .ref l1A] S (fun v' S'' => ∃ v : Int32, v' = some (.int v) ∧ Φ v S'' ∧ wkWF S'' ∧ wkExt S S'') := by
  refine wkMet_of (ret := (some .int)) (by decide) rfl (Nat.le_of_ble_eq_true rfl) (fun X hg C hR E => ?_)
  subst hg
  have hE : wkExt S S := wkExt.rf
  have hd : 3 ≤ 3 := Nat.le_refl _
  show wkGo l X 6 0 0 0 S [some (.ref l0A), some (.ref l1A), none, none, none, none] []
  have ih := tX10_reachAll_go (F := F) C hR hd E F
  have h : rX10_reachAll_s F (rX10_reachAll_go F F) l0A l1A S Φ := h
  unfold rX10_reachAll_s at h
  refine wk_aload_n C dX10_reachAll_0 rfl rfl ?_
  refine wk_aload_n C dX10_reachAll_1 rfl rfl ?_
  refine wk_callV C hR (As := [.ref l1A]) (cnt := 1) (tX10_loadItems (l := l) hW hl0A hl1A h) rfl (wkGoodV (List.mem_of_getElem? (i := 16) rfl) (List.mem_of_getElem? (i := 17) rfl) (List.mem_of_getElem? (i := 18) rfl) (List.mem_of_getElem? (i := 6) rfl) hbX10_reachAll_X10_loadItems gdX10_loadItems) (Nat.le_trans (by decide : 2 + 1 ≤ 3) hd) (by decide) hl0A.1 (fun cy => wAt_10 cy _ hl0A.2) rfl ⟨by decide, by decide, by decide +kernel⟩ rfl rfl (Nat.le_of_ble_eq_true rfl) (Nat.le_refl 0) (Nat.le_refl 0) dX10_reachAll_2 (fun v' S38 hp => ?_)
  obtain ⟨v37, rfl, h, hWS38, hXS38⟩ := hp
  refine wk_aload_n C dX10_reachAll_5 rfl rfl ?_
  refine wk_get C huX10_reachAll_10 (hXS38 _ _ hl0A).1 (fun cy => wAt_10 cy _ (hXS38 _ _ hl0A).2) rfl 6 (by decide) (List.mem_of_getElem? (i := 13) rfl) rfl (congrArg some (congrArg va_rf (wf_Words_cameBy hWS38 (hXS38 _ _ hl0A)).1)) dX10_reachAll_6 ?_
  refine wk_iconst C (v := (-1)) dX10_reachAll_9 (by decide) ?_
  refine wk_callW C hR (As := [.ref (wkAd (gWords_cameBy S38 l0A)), .int (-1 : Int32)]) (cnt := 2) (tJ7_fill_53178 (l := l) hWS38 (wf_Words_cameBy hWS38 (hXS38 _ _ hl0A)).2 h) rfl (wkGoodW (List.mem_of_getElem? (i := 19) rfl) (List.mem_of_getElem? (i := 20) rfl) (List.mem_of_getElem? (i := 21) rfl) hbX10_reachAll_J7_fill_53178 gdJ7_fill_53178) (Nat.le_trans (by decide : 0 + 1 ≤ 3) hd) (by decide) ⟨by decide, by decide, by decide +kernel⟩ rfl rfl (Nat.le_of_ble_eq_true rfl) (Nat.le_refl 0) (Nat.le_refl 0) dX10_reachAll_10 (fun v' S43 hp => ?_)
  obtain ⟨v42, rfl, h, hWS43, hXS43⟩ := hp
  refine wk_aload_n C dX10_reachAll_13 rfl rfl ?_
  refine wk_get C huX10_reachAll_10 (hXS43 _ _ (hXS38 _ _ hl0A)).1 (fun cy => wAt_10 cy _ (hXS43 _ _ (hXS38 _ _ hl0A)).2) rfl 4 (by decide) (List.mem_of_getElem? (i := 1) rfl) rfl (congrArg some (congrArg va_rf (wf_Words_queue hWS43 (hXS43 _ _ (hXS38 _ _ hl0A))).1)) dX10_reachAll_14 ?_
  refine wk_iconst C (v := 0) dX10_reachAll_17 (by decide) ?_
  refine wk_iconst C (v := 0) dX10_reachAll_18 (by decide) ?_
  obtain ⟨i47, h⟩ := h
  obtain ⟨S48, eS48, h⟩ := wkLt_some h
  refine wk_iast C (wf_Words_queue hWS43 (hXS43 _ _ (hXS38 _ _ hl0A))).2.1 (wf_Words_queue hWS43 (hXS43 _ _ (hXS38 _ _ hl0A))).2.2 i47 eS48.symm dX10_reachAll_19 ?_
  have hWS48 : wkWF S48 := by rw [eS48]; exact hWS43
  have hXS48 : wkExt S43 S48 := by rw [eS48]; exact wkExt.rf
  refine wk_aload_n C dX10_reachAll_20 rfl rfl ?_
  refine wk_get C huX10_reachAll_10 (hXS48 _ _ (hXS43 _ _ (hXS38 _ _ hl0A))).1 (fun cy => wAt_10 cy _ (hXS48 _ _ (hXS43 _ _ (hXS38 _ _ hl0A))).2) rfl 6 (by decide) (List.mem_of_getElem? (i := 13) rfl) rfl (congrArg some (congrArg va_rf (wf_Words_cameBy hWS48 (hXS48 _ _ (hXS43 _ _ (hXS38 _ _ hl0A)))).1)) dX10_reachAll_21 ?_
  refine wk_iconst C (v := 0) dX10_reachAll_24 (by decide) ?_
  refine wk_iconst C (v := 0) dX10_reachAll_25 (by decide) ?_
  obtain ⟨i49, h⟩ := h
  obtain ⟨S50, eS50, h⟩ := wkLt_some h
  refine wk_iast C (wf_Words_cameBy hWS48 (hXS48 _ _ (hXS43 _ _ (hXS38 _ _ hl0A)))).2.1 (wf_Words_cameBy hWS48 (hXS48 _ _ (hXS43 _ _ (hXS38 _ _ hl0A)))).2.2 i49 eS50.symm dX10_reachAll_26 ?_
  have hWS50 : wkWF S50 := by rw [eS50]; exact hWS48
  have hXS50 : wkExt S48 S50 := by rw [eS50]; exact wkExt.rf
  refine wk_iconst C (v := 1) dX10_reachAll_27 (by decide) ?_
  refine wk_istore_n C (lv' := [some (.ref l0A), some (.ref l1A), some (.int (1 : Int32)), none, none, none]) dX10_reachAll_28 rfl (by decide) rfl ?_
  refine wk_iconst C (v := 0) dX10_reachAll_29 (by decide) ?_
  refine wk_istore_n C (lv' := [some (.ref l0A), some (.ref l1A), some (.int (1 : Int32)), some (.int (0 : Int32)), none, none]) dX10_reachAll_30 rfl (by decide) rfl ?_
  exact wk_forget (lv' := [some (.ref l0A), none, some (.int (1 : Int32)), some (.int (0 : Int32)), none, none]) (wkLs.le ⟨rfl, rfl, rfl, trivial⟩) (ih.1 _ _ _ _ hWS50 (wkExt.tr (wkExt.tr (wkExt.tr (wkExt.tr hE hXS38) hXS43) hXS48) hXS50) (hXS50 _ _ (hXS48 _ _ (hXS43 _ _ (hXS38 _ _ hl0A)))) h)
def wvX10_judgeRows : List Cond := .code yX10_judgeRows cX10_judgeRows 5 (some .int) :: (([.fieldLink RX10 71 "Witnessworks$Words" "size" "I", .fieldLink RX10 20 "Witnessworks$Words" "points" "[I", .methodLink RX10 124 yX10_codeOf, .static yX10_codeOf, .initialized RX10, .methodLink RX10 134 yX9_holds, .instanceMethod yX9_holds, .selects RX9 yX9_holds yX9_holds, .initialized RX9, .fieldLink RX10 128 "Witnessworks$Row" "count" "I", .fieldLink RX10 16 "Witnessworks$Words" "goal" "[I", .methodLink RX10 154 yX10_isLedWithin, .instanceMethod yX10_isLedWithin, .selects RX10 yX10_isLedWithin yX10_isLedWithin, .methodLink RX10 94 yX10_loadItems, .instanceMethod yX10_loadItems, .selects RX10 yX10_loadItems yX10_loadItems, .methodLink RX10 131 yX9_at, .instanceMethod yX9_at, .selects RX9 yX9_at yX9_at, .methodLink RX10 146 yX9_isRising, .instanceMethod yX9_isRising, .selects RX9 yX9_isRising yX9_isRising, .methodLink RX10 150 yX10_areRowsOf, .instanceMethod yX10_areRowsOf, .selects RX10 yX10_areRowsOf yX10_areRowsOf] : List Cond) ++ ((wsX100 ++ (wsX90)) ++ (wvX10_codeOf ++ (wvX9_holds ++ (wvX10_isLedWithin ++ (wvX10_loadItems ++ (wvX9_at ++ (wvX9_isRising ++ (wvX10_areRowsOf)))))))))
theorem huX10_judgeRows_10 : ∀ w ∈ u_ws RX10 TX10 12, w ∈ wvX10_judgeRows := fun w h => List.mem_cons_of_mem _ (List.mem_append_right _ (List.mem_append_left _ (List.mem_append_left _ h)))
theorem huX10_judgeRows_9 : ∀ w ∈ u_ws RX9 TX9 2, w ∈ wvX10_judgeRows := fun w h => List.mem_cons_of_mem _ (List.mem_append_right _ (List.mem_append_left _ (List.mem_append_right _ h)))
theorem hbX10_judgeRows_X10_codeOf : ∀ w ∈ wvX10_codeOf, w ∈ wvX10_judgeRows := fun w h => List.mem_cons_of_mem _ (List.mem_append_right _ (List.mem_append_right _ (List.mem_append_left _ h)))
theorem hbX10_judgeRows_X9_holds : ∀ w ∈ wvX9_holds, w ∈ wvX10_judgeRows := fun w h => List.mem_cons_of_mem _ (List.mem_append_right _ (List.mem_append_right _ (List.mem_append_right _ (List.mem_append_left _ h))))
theorem hbX10_judgeRows_X10_isLedWithin : ∀ w ∈ wvX10_isLedWithin, w ∈ wvX10_judgeRows := fun w h => List.mem_cons_of_mem _ (List.mem_append_right _ (List.mem_append_right _ (List.mem_append_right _ (List.mem_append_right _ (List.mem_append_left _ h)))))
theorem hbX10_judgeRows_X10_loadItems : ∀ w ∈ wvX10_loadItems, w ∈ wvX10_judgeRows := fun w h => List.mem_cons_of_mem _ (List.mem_append_right _ (List.mem_append_right _ (List.mem_append_right _ (List.mem_append_right _ (List.mem_append_right _ (List.mem_append_left _ h))))))
theorem hbX10_judgeRows_X9_at : ∀ w ∈ wvX9_at, w ∈ wvX10_judgeRows := fun w h => List.mem_cons_of_mem _ (List.mem_append_right _ (List.mem_append_right _ (List.mem_append_right _ (List.mem_append_right _ (List.mem_append_right _ (List.mem_append_right _ (List.mem_append_left _ h)))))))
theorem hbX10_judgeRows_X9_isRising : ∀ w ∈ wvX9_isRising, w ∈ wvX10_judgeRows := fun w h => List.mem_cons_of_mem _ (List.mem_append_right _ (List.mem_append_right _ (List.mem_append_right _ (List.mem_append_right _ (List.mem_append_right _ (List.mem_append_right _ (List.mem_append_right _ (List.mem_append_left _ h))))))))
theorem hbX10_judgeRows_X10_areRowsOf : ∀ w ∈ wvX10_areRowsOf, w ∈ wvX10_judgeRows := fun w h => List.mem_cons_of_mem _ (List.mem_append_right _ (List.mem_append_right _ (List.mem_append_right _ (List.mem_append_right _ (List.mem_append_right _ (List.mem_append_right _ (List.mem_append_right _ (List.mem_append_right _ h))))))))
theorem gdX10_judgeRows : ∀ w ∈ wvX10_judgeRows, wkGd w := wkGdC rfl (wkGdA (wkGdL (by decide +kernel)) (wkGdA (wkGdA gdX10 gdX9) (wkGdA gdX10_codeOf (wkGdA gdX9_holds (wkGdA gdX10_isLedWithin (wkGdA gdX10_loadItems (wkGdA gdX9_at (wkGdA gdX9_isRising gdX10_areRowsOf))))))))
def rX10_judgeRows_b0 (F : Nat) (rec : Nat → Nat → Nat → Int32 → Int32 → wPS → (Int32 → wPS → Prop) → Prop) (l0A : Nat) (l2A : Nat) (l3I : Int32) (l4I : Int32) (S : wPS) (Φ : (Int32 → wPS → Prop)) : Prop :=
  if (gWords_size S l0A) ≤ l4I then (rX10_codeOf F (wkAd (gWords_points S l0A)) l3I S fun v2 S3 => rX9_holds F l2A (1 : Int32) v2 S3 fun v7 S8 => if v7 = 0 then (Φ (2 : Int32) S8) else (rec 1 l0A l2A l3I (1 : Int32) S8 Φ)) else (¬ (l4I < 0 ∨ S.len (wkAd (gWords_points S l0A)) ≤ (l4I).toNatClampNeg) ∧ wkLt (wuI S (wkAd (gWords_points S l0A)) l4I l4I) fun S14 => wkLt (l4I + (1 : Int32)) fun x15 => rec 0 l0A l2A l3I x15 S14 Φ)
def rX10_judgeRows_b1 (F : Nat) (rec : Nat → Nat → Nat → Int32 → Int32 → wPS → (Int32 → wPS → Prop) → Prop) (l0A : Nat) (l2A : Nat) (l3I : Int32) (l4I : Int32) (S : wPS) (Φ : (Int32 → wPS → Prop)) : Prop :=
  if (gRow_count S l2A) ≤ l4I then (rX10_codeOf F (wkAd (gWords_goal S l0A)) l3I S fun v17 S18 => rX9_holds F l2A (1 : Int32) v17 S18 fun v22 S23 => if v22 = 0 then (Φ (0 : Int32) S23) else (Φ (4 : Int32) S23)) else (rX10_isLedWithin F l0A l2A l4I l3I S fun v28 S29 => if v28 = 0 then (Φ (3 : Int32) S29) else (wkLt (l4I + (1 : Int32)) fun x34 => rec 1 l0A l2A l3I x34 S29 Φ))
def rX10_judgeRows_go (F : Nat) : Nat → Nat → Nat → Nat → Int32 → Int32 → wPS → (Int32 → wPS → Prop) → Prop
  | 0, _, _, _, _, _, _, _ => False
  | k' + 1, lab, l0A, l2A, l3I, l4I, S, Φ => if lab = 0 then rX10_judgeRows_b0 F (rX10_judgeRows_go F k') l0A l2A l3I l4I S Φ else if lab = 1 then rX10_judgeRows_b1 F (rX10_judgeRows_go F k') l0A l2A l3I l4I S Φ else False
def rX10_judgeRows_s (F : Nat) (rec : Nat → Nat → Nat → Int32 → Int32 → wPS → (Int32 → wPS → Prop) → Prop) (l0A : Nat) (l1A : Nat) (l2A : Nat) (S : wPS) (Φ : (Int32 → wPS → Prop)) : Prop :=
  rX10_loadItems F l0A l1A S fun v35 S36 => rX9_at F l2A (0 : Int32) S36 fun v40 S41 => if (gRow_count S41 l2A) = 0 then (Φ (1 : Int32) S41) else (if v40 < (1 : Int32) then (Φ (1 : Int32) S41) else (if (gWords_size S41 l0A) < v40 then (Φ (1 : Int32) S41) else (rX9_isRising F l2A (1 : Int32) S41 fun v48 S49 => if v48 = 0 then (Φ (1 : Int32) S49) else (rX10_areRowsOf F l0A l2A v40 S49 fun v54 S55 => if v54 = 0 then (Φ (1 : Int32) S55) else (rec 0 l0A l2A v40 (0 : Int32) S55 Φ)))))
def rX10_judgeRows (F : Nat) (l0A : Nat) (l1A : Nat) (l2A : Nat) (S : wPS) (Φ : (Int32 → wPS → Prop)) : Prop := rX10_judgeRows_s F (rX10_judgeRows_go F F) l0A l1A l2A S Φ
set_option maxHeartbeats 4000000 in
set_option maxRecDepth 100000 in
theorem tX10_judgeRows_go {l : Launch} {X : wkX} {d F : Nat} {S0 : wPS} {Φ : (Int32 → wPS → Prop)} (C : wkC X cX10_judgeRows RX10 5 wvX10_judgeRows) (hR : wkRm X d 0 0) (hd : 3 ≤ d) (E : wkEnd l X cX10_judgeRows 5 (some .int) 0 0 (fun v' S'' => ∃ v : Int32, v' = some (.int v) ∧ Φ v S'' ∧ wkWF S'' ∧ wkExt S0 S'')) : ∀ k' : Nat, (∀ (l0A : Nat) (l2A : Nat) (l3I : Int32) (l4I : Int32) (S : wPS), wkWF S → wkExt S0 S → wkIs S l0A 10 → wkIs S l2A 9 → rX10_judgeRows_go F k' 0 l0A l2A l3I l4I S Φ → wkGo l X 5 0 0 53 S [some (.ref l0A), none, some (.ref l2A), some (.int l3I), some (.int l4I)] []) ∧ (∀ (l0A : Nat) (l2A : Nat) (l3I : Int32) (l4I : Int32) (S : wPS), wkWF S → wkExt S0 S → wkIs S l0A 10 → wkIs S l2A 9 → rX10_judgeRows_go F k' 1 l0A l2A l3I l4I S Φ → wkGo l X 5 0 0 98 S [some (.ref l0A), none, some (.ref l2A), some (.int l3I), some (.int l4I)] []) := by
  intro k'
  induction k' with
  | zero => exact ⟨fun l0A l2A l3I l4I S hW hE hl0A hl2A h => h.elim, fun l0A l2A l3I l4I S hW hE hl0A hl2A h => h.elim⟩
  | succ k' ih =>
    refine ⟨?_, ?_⟩
    · intro l0A l2A l3I l4I S hW hE hl0A hl2A h
      have h : rX10_judgeRows_b0 F (rX10_judgeRows_go F k') l0A l2A l3I l4I S Φ := by
        rw [rX10_judgeRows_go, if_pos (rfl : (0 : Nat) = 0)] at h
        exact h
      unfold rX10_judgeRows_b0 at h
      refine wk_iload C dX10_judgeRows_53 rfl ?_
      refine wk_aload_n C dX10_judgeRows_55 rfl rfl ?_
      refine wk_get C (v := .int (gWords_size S l0A)) huX10_judgeRows_10 hl0A.1 (fun cy => wAt_10 cy _ hl0A.2) rfl 10 (by decide) (List.mem_of_getElem? (i := 1) rfl) rfl rfl dX10_judgeRows_56 ?_
      refine wk_icmp_ge C (tgt := 77) dX10_judgeRows_59 (by decide) (fun c1 => ?_) (fun c1 => ?_)
      · rw [if_pos c1] at h
        refine wk_aload_n C dX10_judgeRows_77 rfl rfl ?_
        refine wk_iconst C (v := 1) dX10_judgeRows_78 (by decide) ?_
        refine wk_aload_n C dX10_judgeRows_79 rfl rfl ?_
        refine wk_get C huX10_judgeRows_10 hl0A.1 (fun cy => wAt_10 cy _ hl0A.2) rfl 2 (by decide) (List.mem_of_getElem? (i := 2) rfl) rfl (congrArg some (congrArg va_rf (wf_Words_points hW hl0A).1)) dX10_judgeRows_80 ?_
        refine wk_iload_n C dX10_judgeRows_83 rfl rfl ?_
        refine wk_callW C hR (As := [.ref (wkAd (gWords_points S l0A)), .int l3I]) (cnt := 2) (tX10_codeOf (l := l) hW (wf_Words_points hW hl0A).2 h) rfl (wkGoodW (List.mem_of_getElem? (i := 3) rfl) (List.mem_of_getElem? (i := 4) rfl) (List.mem_of_getElem? (i := 5) rfl) hbX10_judgeRows_X10_codeOf gdX10_codeOf) (Nat.le_trans (by decide : 0 + 1 ≤ 3) hd) (by decide) ⟨by decide, by decide, by decide +kernel⟩ rfl rfl (Nat.le_of_ble_eq_true rfl) (Nat.le_refl 0) (Nat.le_refl 0) dX10_judgeRows_84 (fun v' S3 hp => ?_)
        obtain ⟨v2, rfl, h, hWS3, hXS3⟩ := hp
        refine wk_callV C hR (As := [.int (1 : Int32), .int v2]) (cnt := 2) (tX9_holds (l := l) hWS3 (hXS3 _ _ hl2A) h) rfl (wkGoodV (List.mem_of_getElem? (i := 6) rfl) (List.mem_of_getElem? (i := 7) rfl) (List.mem_of_getElem? (i := 8) rfl) (List.mem_of_getElem? (i := 9) rfl) hbX10_judgeRows_X9_holds gdX9_holds) (Nat.le_trans (by decide : 0 + 1 ≤ 3) hd) (by decide) (hXS3 _ _ hl2A).1 (fun cy => wAt_9 cy _ (hXS3 _ _ hl2A).2) rfl ⟨by decide, by decide, by decide +kernel⟩ rfl rfl (Nat.le_of_ble_eq_true rfl) (Nat.le_refl 0) (Nat.le_refl 0) dX10_judgeRows_87 (fun v' S8 hp => ?_)
        obtain ⟨v7, rfl, h, hWS8, hXS8⟩ := hp
        refine wk_if_ne C (tgt := 95) dX10_judgeRows_90 (by decide) (fun c12 => ?_) (fun c12 => ?_)
        · rw [if_neg c12] at h
          refine wk_iconst C (v := 1) dX10_judgeRows_95 (by decide) ?_
          refine wk_istore C (lv' := [some (.ref l0A), none, some (.ref l2A), some (.int l3I), some (.int (1 : Int32))]) dX10_judgeRows_96 (by decide) rfl ?_
          exact wk_forget (lv' := [some (.ref l0A), none, some (.ref l2A), some (.int l3I), some (.int (1 : Int32))]) (wkLs.le ⟨rfl, rfl, rfl, rfl, trivial⟩) (ih.2 _ _ _ _ _ hWS8 (wkExt.tr (wkExt.tr hE hXS3) hXS8) (hXS8 _ _ (hXS3 _ _ hl0A)) (hXS8 _ _ (hXS3 _ _ hl2A)) h)
        · rw [if_pos c12] at h
          refine wk_iconst C (v := 2) dX10_judgeRows_93 (by decide) ?_
          exact E _ _ _ _ _ _ (Nat.le_refl 0) (Nat.le_refl 0) dX10_judgeRows_94 ⟨(2 : Int32), rfl, h, hWS8, (wkExt.tr (wkExt.tr hE hXS3) hXS8)⟩
      · rw [if_neg c1] at h
        refine wk_aload_n C dX10_judgeRows_62 rfl rfl ?_
        refine wk_get C huX10_judgeRows_10 hl0A.1 (fun cy => wAt_10 cy _ hl0A.2) rfl 2 (by decide) (List.mem_of_getElem? (i := 2) rfl) rfl (congrArg some (congrArg va_rf (wf_Words_points hW hl0A).1)) dX10_judgeRows_63 ?_
        refine wk_iload C dX10_judgeRows_66 rfl ?_
        refine wk_iload C dX10_judgeRows_68 rfl ?_
        obtain ⟨i13, h⟩ := h
        obtain ⟨S14, eS14, h⟩ := wkLt_some h
        refine wk_iast C (wf_Words_points hW hl0A).2.1 (wf_Words_points hW hl0A).2.2 i13 eS14.symm dX10_judgeRows_70 ?_
        have hWS14 : wkWF S14 := by rw [eS14]; exact hW
        have hXS14 : wkExt S S14 := by rw [eS14]; exact wkExt.rf
        obtain ⟨x15, ex15, h⟩ := wkLt_some h
        refine wk_iinc C (lv' := [some (.ref l0A), none, some (.ref l2A), some (.int l3I), some (.int x15)]) dX10_judgeRows_71 rfl (by rw [ex15]; rfl) (by decide) rfl ?_
        refine wk_goto C (tgt := 53) dX10_judgeRows_74 (by decide) ?_
        exact wk_forget (lv' := [some (.ref l0A), none, some (.ref l2A), some (.int l3I), some (.int x15)]) (wkLs.le ⟨rfl, rfl, rfl, rfl, trivial⟩) (ih.1 _ _ _ _ _ hWS14 (wkExt.tr hE hXS14) (hXS14 _ _ hl0A) (hXS14 _ _ hl2A) h)
    · intro l0A l2A l3I l4I S hW hE hl0A hl2A h
      have h : rX10_judgeRows_b1 F (rX10_judgeRows_go F k') l0A l2A l3I l4I S Φ := by
        rw [rX10_judgeRows_go, if_neg (show ¬ (1 : Nat) = 0 by decide), if_pos (rfl : (1 : Nat) = 1)] at h
        exact h
      unfold rX10_judgeRows_b1 at h
      refine wk_iload C dX10_judgeRows_98 rfl ?_
      refine wk_aload_n C dX10_judgeRows_100 rfl rfl ?_
      refine wk_get C (v := .int (gRow_count S l2A)) huX10_judgeRows_9 hl2A.1 (fun cy => wAt_9 cy _ hl2A.2) rfl 1 (by decide) (List.mem_of_getElem? (i := 10) rfl) rfl rfl dX10_judgeRows_101 ?_
      refine wk_icmp_ge C (tgt := 126) dX10_judgeRows_104 (by decide) (fun c16 => ?_) (fun c16 => ?_)
      · rw [if_pos c16] at h
        refine wk_aload_n C dX10_judgeRows_126 rfl rfl ?_
        refine wk_iconst C (v := 1) dX10_judgeRows_127 (by decide) ?_
        refine wk_aload_n C dX10_judgeRows_128 rfl rfl ?_
        refine wk_get C huX10_judgeRows_10 hl0A.1 (fun cy => wAt_10 cy _ hl0A.2) rfl 1 (by decide) (List.mem_of_getElem? (i := 11) rfl) rfl (congrArg some (congrArg va_rf (wf_Words_goal hW hl0A).1)) dX10_judgeRows_129 ?_
        refine wk_iload_n C dX10_judgeRows_132 rfl rfl ?_
        refine wk_callW C hR (As := [.ref (wkAd (gWords_goal S l0A)), .int l3I]) (cnt := 2) (tX10_codeOf (l := l) hW (wf_Words_goal hW hl0A).2 h) rfl (wkGoodW (List.mem_of_getElem? (i := 3) rfl) (List.mem_of_getElem? (i := 4) rfl) (List.mem_of_getElem? (i := 5) rfl) hbX10_judgeRows_X10_codeOf gdX10_codeOf) (Nat.le_trans (by decide : 0 + 1 ≤ 3) hd) (by decide) ⟨by decide, by decide, by decide +kernel⟩ rfl rfl (Nat.le_of_ble_eq_true rfl) (Nat.le_refl 0) (Nat.le_refl 0) dX10_judgeRows_133 (fun v' S18 hp => ?_)
        obtain ⟨v17, rfl, h, hWS18, hXS18⟩ := hp
        refine wk_callV C hR (As := [.int (1 : Int32), .int v17]) (cnt := 2) (tX9_holds (l := l) hWS18 (hXS18 _ _ hl2A) h) rfl (wkGoodV (List.mem_of_getElem? (i := 6) rfl) (List.mem_of_getElem? (i := 7) rfl) (List.mem_of_getElem? (i := 8) rfl) (List.mem_of_getElem? (i := 9) rfl) hbX10_judgeRows_X9_holds gdX9_holds) (Nat.le_trans (by decide : 0 + 1 ≤ 3) hd) (by decide) (hXS18 _ _ hl2A).1 (fun cy => wAt_9 cy _ (hXS18 _ _ hl2A).2) rfl ⟨by decide, by decide, by decide +kernel⟩ rfl rfl (Nat.le_of_ble_eq_true rfl) (Nat.le_refl 0) (Nat.le_refl 0) dX10_judgeRows_136 (fun v' S23 hp => ?_)
        obtain ⟨v22, rfl, h, hWS23, hXS23⟩ := hp
        refine wk_if_eq C (tgt := 146) dX10_judgeRows_139 (by decide) (fun c27 => ?_) (fun c27 => ?_)
        · rw [if_pos c27] at h
          refine wk_iconst C (v := 0) dX10_judgeRows_146 (by decide) ?_
          exact E _ _ _ _ _ _ (Nat.le_refl 0) (Nat.le_refl 0) dX10_judgeRows_147 ⟨(0 : Int32), rfl, h, hWS23, (wkExt.tr (wkExt.tr hE hXS18) hXS23)⟩
        · rw [if_neg c27] at h
          refine wk_iconst C (v := 4) dX10_judgeRows_142 (by decide) ?_
          refine wk_goto C (tgt := 147) dX10_judgeRows_143 (by decide) ?_
          exact E _ _ _ _ _ _ (Nat.le_refl 0) (Nat.le_refl 0) dX10_judgeRows_147 ⟨(4 : Int32), rfl, h, hWS23, (wkExt.tr (wkExt.tr hE hXS18) hXS23)⟩
      · rw [if_neg c16] at h
        refine wk_aload_n C dX10_judgeRows_107 rfl rfl ?_
        refine wk_aload_n C dX10_judgeRows_108 rfl rfl ?_
        refine wk_iload C dX10_judgeRows_109 rfl ?_
        refine wk_iload_n C dX10_judgeRows_111 rfl rfl ?_
        refine wk_callV C hR (As := [.ref l2A, .int l4I, .int l3I]) (cnt := 3) (tX10_isLedWithin (l := l) hW hl0A hl2A h) rfl (wkGoodV (List.mem_of_getElem? (i := 12) rfl) (List.mem_of_getElem? (i := 13) rfl) (List.mem_of_getElem? (i := 14) rfl) (List.mem_of_getElem? (i := 5) rfl) hbX10_judgeRows_X10_isLedWithin gdX10_isLedWithin) (Nat.le_trans (by decide : 2 + 1 ≤ 3) hd) (by decide) hl0A.1 (fun cy => wAt_10 cy _ hl0A.2) rfl ⟨by decide, by decide, by decide +kernel⟩ rfl rfl (Nat.le_of_ble_eq_true rfl) (Nat.le_refl 0) (Nat.le_refl 0) dX10_judgeRows_112 (fun v' S29 hp => ?_)
        obtain ⟨v28, rfl, h, hWS29, hXS29⟩ := hp
        refine wk_if_ne C (tgt := 120) dX10_judgeRows_115 (by decide) (fun c33 => ?_) (fun c33 => ?_)
        · rw [if_neg c33] at h
          obtain ⟨x34, ex34, h⟩ := wkLt_some h
          refine wk_iinc C (lv' := [some (.ref l0A), none, some (.ref l2A), some (.int l3I), some (.int x34)]) dX10_judgeRows_120 rfl (by rw [ex34]; rfl) (by decide) rfl ?_
          refine wk_goto C (tgt := 98) dX10_judgeRows_123 (by decide) ?_
          exact wk_forget (lv' := [some (.ref l0A), none, some (.ref l2A), some (.int l3I), some (.int x34)]) (wkLs.le ⟨rfl, rfl, rfl, rfl, trivial⟩) (ih.2 _ _ _ _ _ hWS29 (wkExt.tr hE hXS29) (hXS29 _ _ hl0A) (hXS29 _ _ hl2A) h)
        · rw [if_pos c33] at h
          refine wk_iconst C (v := 3) dX10_judgeRows_118 (by decide) ?_
          exact E _ _ _ _ _ _ (Nat.le_refl 0) (Nat.le_refl 0) dX10_judgeRows_119 ⟨(3 : Int32), rfl, h, hWS29, (wkExt.tr hE hXS29)⟩
set_option maxHeartbeats 4000000 in
set_option maxRecDepth 100000 in
theorem tX10_judgeRows {l : Launch} {g : wkG} {F : Nat}  {S : wPS} {l0A : Nat} {l1A : Nat} {l2A : Nat} {Φ : (Int32 → wPS → Prop)} (hW : wkWF S) (hl0A : wkIs S l0A 10) (hl1A : wkIs S l1A 3) (hl2A : wkIs S l2A 9) (h : rX10_judgeRows F l0A l1A l2A S Φ) : wkMet l g yX10_judgeRows wvX10_judgeRows 3 0 0 [.ref l0A, .ref l1A, .ref l2A] S (fun v' S'' => ∃ v : Int32, v' = some (.int v) ∧ Φ v S'' ∧ wkWF S'' ∧ wkExt S S'') := by
  refine wkMet_of (ret := (some .int)) (by decide) rfl (Nat.le_of_ble_eq_true rfl) (fun X hg C hR E => ?_)
  subst hg
  have hE : wkExt S S := wkExt.rf
  have hd : 3 ≤ 3 := Nat.le_refl _
  show wkGo l X 5 0 0 0 S [some (.ref l0A), some (.ref l1A), some (.ref l2A), none, none] []
  have ih := tX10_judgeRows_go (F := F) C hR hd E F
  have h : rX10_judgeRows_s F (rX10_judgeRows_go F F) l0A l1A l2A S Φ := h
  unfold rX10_judgeRows_s at h
  refine wk_aload_n C dX10_judgeRows_0 rfl rfl ?_
  refine wk_aload_n C dX10_judgeRows_1 rfl rfl ?_
  refine wk_callV C hR (As := [.ref l1A]) (cnt := 1) (tX10_loadItems (l := l) hW hl0A hl1A h) rfl (wkGoodV (List.mem_of_getElem? (i := 15) rfl) (List.mem_of_getElem? (i := 16) rfl) (List.mem_of_getElem? (i := 17) rfl) (List.mem_of_getElem? (i := 5) rfl) hbX10_judgeRows_X10_loadItems gdX10_loadItems) (Nat.le_trans (by decide : 2 + 1 ≤ 3) hd) (by decide) hl0A.1 (fun cy => wAt_10 cy _ hl0A.2) rfl ⟨by decide, by decide, by decide +kernel⟩ rfl rfl (Nat.le_of_ble_eq_true rfl) (Nat.le_refl 0) (Nat.le_refl 0) dX10_judgeRows_2 (fun v' S36 hp => ?_)
  obtain ⟨v35, rfl, h, hWS36, hXS36⟩ := hp
  refine wk_aload_n C dX10_judgeRows_5 rfl rfl ?_
  refine wk_iconst C (v := 0) dX10_judgeRows_6 (by decide) ?_
  refine wk_callV C hR (As := [.int (0 : Int32)]) (cnt := 1) (tX9_at (l := l) hWS36 (hXS36 _ _ hl2A) h) rfl (wkGoodV (List.mem_of_getElem? (i := 18) rfl) (List.mem_of_getElem? (i := 19) rfl) (List.mem_of_getElem? (i := 20) rfl) (List.mem_of_getElem? (i := 9) rfl) hbX10_judgeRows_X9_at gdX9_at) (Nat.le_trans (by decide : 0 + 1 ≤ 3) hd) (by decide) (hXS36 _ _ hl2A).1 (fun cy => wAt_9 cy _ (hXS36 _ _ hl2A).2) rfl ⟨by decide, by decide, by decide +kernel⟩ rfl rfl (Nat.le_of_ble_eq_true rfl) (Nat.le_refl 0) (Nat.le_refl 0) dX10_judgeRows_7 (fun v' S41 hp => ?_)
  obtain ⟨v40, rfl, h, hWS41, hXS41⟩ := hp
  refine wk_istore_n C (lv' := [some (.ref l0A), some (.ref l1A), some (.ref l2A), some (.int v40), none]) dX10_judgeRows_10 rfl (by decide) rfl ?_
  refine wk_aload_n C dX10_judgeRows_11 rfl rfl ?_
  refine wk_get C (v := .int (gRow_count S41 l2A)) huX10_judgeRows_9 (hXS41 _ _ (hXS36 _ _ hl2A)).1 (fun cy => wAt_9 cy _ (hXS41 _ _ (hXS36 _ _ hl2A)).2) rfl 1 (by decide) (List.mem_of_getElem? (i := 10) rfl) rfl rfl dX10_judgeRows_12 ?_
  refine wk_if_eq C (tgt := 48) dX10_judgeRows_15 (by decide) (fun c45 => ?_) (fun c45 => ?_)
  · rw [if_pos c45] at h
    refine wk_iconst C (v := 1) dX10_judgeRows_48 (by decide) ?_
    exact E _ _ _ _ _ _ (Nat.le_refl 0) (Nat.le_refl 0) dX10_judgeRows_49 ⟨(1 : Int32), rfl, h, hWS41, (wkExt.tr (wkExt.tr hE hXS36) hXS41)⟩
  · rw [if_neg c45] at h
    refine wk_iload_n C dX10_judgeRows_18 rfl rfl ?_
    refine wk_iconst C (v := 1) dX10_judgeRows_19 (by decide) ?_
    refine wk_icmp_lt C (tgt := 48) dX10_judgeRows_20 (by decide) (fun c46 => ?_) (fun c46 => ?_)
    · rw [if_pos c46] at h
      refine wk_iconst C (v := 1) dX10_judgeRows_48 (by decide) ?_
      exact E _ _ _ _ _ _ (Nat.le_refl 0) (Nat.le_refl 0) dX10_judgeRows_49 ⟨(1 : Int32), rfl, h, hWS41, (wkExt.tr (wkExt.tr hE hXS36) hXS41)⟩
    · rw [if_neg c46] at h
      refine wk_iload_n C dX10_judgeRows_23 rfl rfl ?_
      refine wk_aload_n C dX10_judgeRows_24 rfl rfl ?_
      refine wk_get C (v := .int (gWords_size S41 l0A)) huX10_judgeRows_10 (hXS41 _ _ (hXS36 _ _ hl0A)).1 (fun cy => wAt_10 cy _ (hXS41 _ _ (hXS36 _ _ hl0A)).2) rfl 10 (by decide) (List.mem_of_getElem? (i := 1) rfl) rfl rfl dX10_judgeRows_25 ?_
      refine wk_icmp_gt C (tgt := 48) dX10_judgeRows_28 (by decide) (fun c47 => ?_) (fun c47 => ?_)
      · rw [if_pos c47] at h
        refine wk_iconst C (v := 1) dX10_judgeRows_48 (by decide) ?_
        exact E _ _ _ _ _ _ (Nat.le_refl 0) (Nat.le_refl 0) dX10_judgeRows_49 ⟨(1 : Int32), rfl, h, hWS41, (wkExt.tr (wkExt.tr hE hXS36) hXS41)⟩
      · rw [if_neg c47] at h
        refine wk_aload_n C dX10_judgeRows_31 rfl rfl ?_
        refine wk_iconst C (v := 1) dX10_judgeRows_32 (by decide) ?_
        refine wk_callV C hR (As := [.int (1 : Int32)]) (cnt := 1) (tX9_isRising (l := l) hWS41 (hXS41 _ _ (hXS36 _ _ hl2A)) h) rfl (wkGoodV (List.mem_of_getElem? (i := 21) rfl) (List.mem_of_getElem? (i := 22) rfl) (List.mem_of_getElem? (i := 23) rfl) (List.mem_of_getElem? (i := 9) rfl) hbX10_judgeRows_X9_isRising gdX9_isRising) (Nat.le_trans (by decide : 0 + 1 ≤ 3) hd) (by decide) (hXS41 _ _ (hXS36 _ _ hl2A)).1 (fun cy => wAt_9 cy _ (hXS41 _ _ (hXS36 _ _ hl2A)).2) rfl ⟨by decide, by decide, by decide +kernel⟩ rfl rfl (Nat.le_of_ble_eq_true rfl) (Nat.le_refl 0) (Nat.le_refl 0) dX10_judgeRows_33 (fun v' S49 hp => ?_)
        obtain ⟨v48, rfl, h, hWS49, hXS49⟩ := hp
        refine wk_if_eq C (tgt := 48) dX10_judgeRows_36 (by decide) (fun c53 => ?_) (fun c53 => ?_)
        · rw [if_pos c53] at h
          refine wk_iconst C (v := 1) dX10_judgeRows_48 (by decide) ?_
          exact E _ _ _ _ _ _ (Nat.le_refl 0) (Nat.le_refl 0) dX10_judgeRows_49 ⟨(1 : Int32), rfl, h, hWS49, (wkExt.tr (wkExt.tr (wkExt.tr hE hXS36) hXS41) hXS49)⟩
        · rw [if_neg c53] at h
          refine wk_aload_n C dX10_judgeRows_39 rfl rfl ?_
          refine wk_aload_n C dX10_judgeRows_40 rfl rfl ?_
          refine wk_iload_n C dX10_judgeRows_41 rfl rfl ?_
          refine wk_callV C hR (As := [.ref l2A, .int v40]) (cnt := 2) (tX10_areRowsOf (l := l) hWS49 (hXS49 _ _ (hXS41 _ _ (hXS36 _ _ hl0A))) (hXS49 _ _ (hXS41 _ _ (hXS36 _ _ hl2A))) h) rfl (wkGoodV (List.mem_of_getElem? (i := 24) rfl) (List.mem_of_getElem? (i := 25) rfl) (List.mem_of_getElem? (i := 26) rfl) (List.mem_of_getElem? (i := 5) rfl) hbX10_judgeRows_X10_areRowsOf gdX10_areRowsOf) (Nat.le_trans (by decide : 2 + 1 ≤ 3) hd) (by decide) (hXS49 _ _ (hXS41 _ _ (hXS36 _ _ hl0A))).1 (fun cy => wAt_10 cy _ (hXS49 _ _ (hXS41 _ _ (hXS36 _ _ hl0A))).2) rfl ⟨by decide, by decide, by decide +kernel⟩ rfl rfl (Nat.le_of_ble_eq_true rfl) (Nat.le_refl 0) (Nat.le_refl 0) dX10_judgeRows_42 (fun v' S55 hp => ?_)
          obtain ⟨v54, rfl, h, hWS55, hXS55⟩ := hp
          refine wk_if_ne C (tgt := 50) dX10_judgeRows_45 (by decide) (fun c59 => ?_) (fun c59 => ?_)
          · rw [if_neg c59] at h
            refine wk_iconst C (v := 0) dX10_judgeRows_50 (by decide) ?_
            refine wk_istore C (lv' := [some (.ref l0A), some (.ref l1A), some (.ref l2A), some (.int v40), some (.int (0 : Int32))]) dX10_judgeRows_51 (by decide) rfl ?_
            exact wk_forget (lv' := [some (.ref l0A), none, some (.ref l2A), some (.int v40), some (.int (0 : Int32))]) (wkLs.le ⟨rfl, rfl, rfl, rfl, trivial⟩) (ih.1 _ _ _ _ _ hWS55 (wkExt.tr (wkExt.tr (wkExt.tr (wkExt.tr hE hXS36) hXS41) hXS49) hXS55) (hXS55 _ _ (hXS49 _ _ (hXS41 _ _ (hXS36 _ _ hl0A)))) (hXS55 _ _ (hXS49 _ _ (hXS41 _ _ (hXS36 _ _ hl2A)))) h)
          · rw [if_pos c59] at h
            refine wk_iconst C (v := 1) dX10_judgeRows_48 (by decide) ?_
            exact E _ _ _ _ _ _ (Nat.le_refl 0) (Nat.le_refl 0) dX10_judgeRows_49 ⟨(1 : Int32), rfl, h, hWS55, (wkExt.tr (wkExt.tr (wkExt.tr (wkExt.tr hE hXS36) hXS41) hXS49) hXS55)⟩
