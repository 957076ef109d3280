def wvX7_judgeNodes : List Cond := .code yX7_judgeNodes cX7_judgeNodes 8 (some .int) :: (([.fieldLink RX7 103 "Witnessworks$Row" "count" "I", .methodLink RX7 110 yX9_at, .instanceMethod yX9_at, .selects RX9 yX9_at yX9_at, .initialized RX9, .fieldLink RX7 46 "Witnessworks$Entry" "boundNow" "I", .static yX11_has, .initialized RX11, .fieldLink RX7 9 "Witnessworks$Networks" "near" "[I", .static yX11_hangingTogether, .methodLink RX7 121 yJ6_bitCount_0f7a4, .static yJ6_bitCount_0f7a4, .initialized RJ6, .fieldLink RX7 40 "Witnessworks$Entry" "size" "I", .methodLink RX7 106 yX9_liesWithin, .instanceMethod yX9_liesWithin, .selects RX9 yX9_liesWithin yX9_liesWithin, .methodLink RX7 113 yX9_isRising, .instanceMethod yX9_isRising, .selects RX9 yX9_isRising yX9_isRising, .methodLink RX7 64 yX3_fillNear, .instanceMethod yX3_fillNear, .selects RX3 yX3_fillNear yX3_fillNear, .initialized RX3] : List Cond) ++ ((wsX90 ++ (wsX30 ++ (wsX70))) ++ (wvX9_at ++ (wvX11_has ++ (wvX11_hangingTogether ++ (wvJ6_bitCount_0f7a4 ++ (wvX9_liesWithin ++ (wvX9_isRising ++ (wvX3_fillNear)))))))))
theorem huX7_judgeNodes_9 : ∀ w ∈ u_ws RX9 TX9 2, w ∈ wvX7_judgeNodes := fun w h => List.mem_cons_of_mem _ (List.mem_append_right _ (List.mem_append_left _ (List.mem_append_left _ h)))
theorem huX7_judgeNodes_3 : ∀ w ∈ u_ws RX3 TX3 17, w ∈ wvX7_judgeNodes := fun w h => List.mem_cons_of_mem _ (List.mem_append_right _ (List.mem_append_left _ (List.mem_append_right _ (List.mem_append_left _ h))))
theorem huX7_judgeNodes_7 : ∀ w ∈ u_ws RX7 TX7 11, w ∈ wvX7_judgeNodes := fun w h => List.mem_cons_of_mem _ (List.mem_append_right _ (List.mem_append_left _ (List.mem_append_right _ (List.mem_append_right _ h))))
theorem hbX7_judgeNodes_X9_at : ∀ w ∈ wvX9_at, w ∈ wvX7_judgeNodes := fun w h => List.mem_cons_of_mem _ (List.mem_append_right _ (List.mem_append_right _ (List.mem_append_left _ h)))
theorem hbX7_judgeNodes_X11_has : ∀ w ∈ wvX11_has, w ∈ wvX7_judgeNodes := fun w h => List.mem_cons_of_mem _ (List.mem_append_right _ (List.mem_append_right _ (List.mem_append_right _ (List.mem_append_left _ h))))
theorem hbX7_judgeNodes_X11_hangingTogether : ∀ w ∈ wvX11_hangingTogether, w ∈ wvX7_judgeNodes := fun w h => List.mem_cons_of_mem _ (List.mem_append_right _ (List.mem_append_right _ (List.mem_append_right _ (List.mem_append_right _ (List.mem_append_left _ h)))))
theorem hbX7_judgeNodes_J6_bitCount_0f7a4 : ∀ w ∈ wvJ6_bitCount_0f7a4, w ∈ wvX7_judgeNodes := fun w h => List.mem_cons_of_mem _ (List.mem_append_right _ (List.mem_append_right _ (List.mem_append_right _ (List.mem_append_right _ (List.mem_append_right _ (List.mem_append_left _ h))))))
theorem hbX7_judgeNodes_X9_liesWithin : ∀ w ∈ wvX9_liesWithin, w ∈ wvX7_judgeNodes := fun w h => List.mem_cons_of_mem _ (List.mem_append_right _ (List.mem_append_right _ (List.mem_append_right _ (List.mem_append_right _ (List.mem_append_right _ (List.mem_append_right _ (List.mem_append_left _ h)))))))
theorem hbX7_judgeNodes_X9_isRising : ∀ w ∈ wvX9_isRising, w ∈ wvX7_judgeNodes := fun w h => List.mem_cons_of_mem _ (List.mem_append_right _ (List.mem_append_right _ (List.mem_append_right _ (List.mem_append_right _ (List.mem_append_right _ (List.mem_append_right _ (List.mem_append_right _ (List.mem_append_left _ h))))))))
theorem hbX7_judgeNodes_X3_fillNear : ∀ w ∈ wvX3_fillNear, w ∈ wvX7_judgeNodes := fun w h => List.mem_cons_of_mem _ (List.mem_append_right _ (List.mem_append_right _ (List.mem_append_right _ (List.mem_append_right _ (List.mem_append_right _ (List.mem_append_right _ (List.mem_append_right _ (List.mem_append_right _ h))))))))
theorem gdX7_judgeNodes : ∀ w ∈ wvX7_judgeNodes, wkGd w := wkGdC rfl (wkGdA (wkGdL (by decide +kernel)) (wkGdA (wkGdA gdX9 (wkGdA gdX3 gdX7)) (wkGdA gdX9_at (wkGdA gdX11_has (wkGdA gdX11_hangingTogether (wkGdA gdJ6_bitCount_0f7a4 (wkGdA gdX9_liesWithin (wkGdA gdX9_isRising gdX3_fillNear))))))))
def rX7_judgeNodes_b0 (F : Nat) (rec : Nat → Nat → Nat → Nat → Int32 → Int32 → Int32 → Int32 → wPS → (Int32 → wPS → Prop) → Prop) (l0A : Nat) (l1A : Nat) (l2A : Nat) (l3I : Int32) (l4I : Int32) (l5I : Int32) (S : wPS) (Φ : (Int32 → wPS → Prop)) : Prop :=
  if (gRow_count S l2A) ≤ l5I then (rec 1 l0A l1A l2A l3I l4I (0 : Int32) (0 : Int32) S Φ) else (rX9_at F l2A l5I S fun v2 S3 => wkLt ((l4I &&& (((1 : Int32) <<< (v2 &&& 31)) ^^^ (-1 : Int32)))) fun x7 => wkLt (l5I + (1 : Int32)) fun x8 => rec 0 l0A l1A l2A l3I x7 x8 0 S3 Φ)
def rX7_judgeNodes_b1 (F : Nat) (rec : Nat → Nat → Nat → Nat → Int32 → Int32 → Int32 → Int32 → wPS → (Int32 → wPS → Prop) → Prop) (l0A : Nat) (l1A : Nat) (l2A : Nat) (l3I : Int32) (l4I : Int32) (l5I : Int32) (l6I : Int32) (S : wPS) (Φ : (Int32 → wPS → Prop)) : Prop :=
  if l3I ≤ l6I then (if l5I ≤ ((gEntry_boundNow S l1A) + (gRow_count S l2A)) then (Φ (2 : Int32) S) else (Φ (0 : Int32) S)) else (rX11_has F l4I l6I S fun v11 S12 => if v11 = 0 then (wkLt (l6I + (1 : Int32)) fun x17 => rec 1 l0A l1A l2A l3I l4I l5I x17 S12 Φ) else (rX11_hangingTogether F (wkAd (gNetworks_near S12 l0A)) l6I l4I S12 fun v18 S19 => rJ6_bitCount_0f7a4 F v18 S19 fun v23 S24 => wkLt ((l5I + (v23 - v23 / (2 : Int32) * (2 : Int32)))) fun x28 => wkLt ((l4I &&& (v18 ^^^ (-1 : Int32)))) fun x29 => wkLt (l6I + (1 : Int32)) fun x30 => rec 1 l0A l1A l2A l3I x29 x28 x30 S24 Φ))
def rX7_judgeNodes_go (F : Nat) : Nat → Nat → Nat → Nat → Nat → Int32 → Int32 → Int32 → Int32 → wPS → (Int32 → wPS → Prop) → Prop
  | 0, _, _, _, _, _, _, _, _, _, _ => False
  | k' + 1, lab, l0A, l1A, l2A, l3I, l4I, l5I, l6I, S, Φ => if lab = 0 then rX7_judgeNodes_b0 F (rX7_judgeNodes_go F k') l0A l1A l2A l3I l4I l5I S Φ else if lab = 1 then rX7_judgeNodes_b1 F (rX7_judgeNodes_go F k') l0A l1A l2A l3I l4I l5I l6I S Φ else False
def rX7_judgeNodes_s (F : Nat) (rec : Nat → Nat → Nat → Nat → Int32 → Int32 → Int32 → Int32 → wPS → (Int32 → wPS → Prop) → Prop) (l0A : Nat) (l1A : Nat) (l2A : Nat) (S : wPS) (Φ : (Int32 → wPS → Prop)) : Prop :=
  wkLt ((gEntry_size S l1A)) fun x31 => rX9_liesWithin F l2A (0 : Int32) (0 : Int32) (x31 - (1 : Int32)) S fun v32 S33 => if v32 = 0 then (Φ (1 : Int32) S33) else (rX9_isRising F l2A (0 : Int32) S33 fun v38 S39 => if v38 = 0 then (Φ (1 : Int32) S39) else (rX3_fillNear F l1A (wkAd (gNetworks_near S39 l0A)) (-1 : Int32) S39 fun v44 S45 => wkLt ((((1 : Int32) <<< (x31 &&& 31)) - (1 : Int32))) fun x49 => rec 0 l0A l1A l2A x31 x49 (0 : Int32) 0 S45 Φ))
def rX7_judgeNodes (F : Nat) (l0A : Nat) (l1A : Nat) (l2A : Nat) (S : wPS) (Φ : (Int32 → wPS → Prop)) : Prop := rX7_judgeNodes_s F (rX7_judgeNodes_go F F) l0A l1A l2A S Φ
set_option maxHeartbeats 4000000 in
set_option maxRecDepth 100000 in
theorem tX7_judgeNodes_go {l : Launch} {X : wkX} {d F : Nat} {S0 : wPS} {Φ : (Int32 → wPS → Prop)} (C : wkC X cX7_judgeNodes RX7 8 wvX7_judgeNodes) (hR : wkRm X d 0 0) (hd : 2 ≤ d) (E : wkEnd l X cX7_judgeNodes 8 (some .int) 0 0 (fun v' S'' => ∃ v : Int32, v' = some (.int v) ∧ Φ v S'' ∧ wkWF S'' ∧ wkExt S0 S'')) : ∀ k' : Nat, (∀ (l0A : Nat) (l1A : Nat) (l2A : Nat) (l3I : Int32) (l4I : Int32) (l5I : Int32) (S : wPS), wkWF S → wkExt S0 S → wkIs S l0A 7 → wkIs S l1A 3 → wkIs S l2A 9 → rX7_judgeNodes_go F k' 0 l0A l1A l2A l3I l4I l5I 0 S Φ → wkGo l X 8 0 0 46 S [some (.ref l0A), some (.ref l1A), some (.ref l2A), some (.int l3I), some (.int l4I), some (.int l5I), none, none] []) ∧ (∀ (l0A : Nat) (l1A : Nat) (l2A : Nat) (l3I : Int32) (l4I : Int32) (l5I : Int32) (l6I : Int32) (S : wPS), wkWF S → wkExt S0 S → wkIs S l0A 7 → wkIs S l1A 3 → wkIs S l2A 9 → rX7_judgeNodes_go F k' 1 l0A l1A l2A l3I l4I l5I l6I S Φ → wkGo l X 8 0 0 82 S [some (.ref l0A), some (.ref l1A), some (.ref l2A), some (.int l3I), some (.int l4I), some (.int l5I), some (.int l6I), none] []) := by
  intro k'
  induction k' with
  | zero => exact ⟨fun l0A l1A l2A l3I l4I l5I S hW hE hl0A hl1A hl2A h => h.elim, fun l0A l1A l2A l3I l4I l5I l6I S hW hE hl0A hl1A hl2A h => h.elim⟩
  | succ k' ih =>
    refine ⟨?_, ?_⟩
    · intro l0A l1A l2A l3I l4I l5I S hW hE hl0A hl1A hl2A h
      have h : rX7_judgeNodes_b0 F (rX7_judgeNodes_go F k') l0A l1A l2A l3I l4I l5I S Φ := by
        rw [rX7_judgeNodes_go, if_pos (rfl : (0 : Nat) = 0)] at h
        exact h
      unfold rX7_judgeNodes_b0 at h
      refine wk_iload C dX7_judgeNodes_46 rfl ?_
      refine wk_aload_n C dX7_judgeNodes_48 rfl rfl ?_
      refine wk_get C (v := .int (gRow_count S l2A)) huX7_judgeNodes_9 hl2A.1 (fun cy => wAt_9 cy _ hl2A.2) rfl 1 (by decide) (List.mem_of_getElem? (i := 1) rfl) rfl rfl dX7_judgeNodes_49 ?_
      refine wk_icmp_ge C (tgt := 76) dX7_judgeNodes_52 (by decide) (fun c1 => ?_) (fun c1 => ?_)
      · rw [if_pos c1] at h
        refine wk_iconst C (v := 0) dX7_judgeNodes_76 (by decide) ?_
        refine wk_istore C (lv' := [some (.ref l0A), some (.ref l1A), some (.ref l2A), some (.int l3I), some (.int l4I), some (.int (0 : Int32)), none, none]) dX7_judgeNodes_77 (by decide) rfl ?_
        refine wk_iconst C (v := 0) dX7_judgeNodes_79 (by decide) ?_
        refine wk_istore C (lv' := [some (.ref l0A), some (.ref l1A), some (.ref l2A), some (.int l3I), some (.int l4I), some (.int (0 : Int32)), some (.int (0 : Int32)), none]) dX7_judgeNodes_80 (by decide) rfl ?_
        exact wk_forget (lv' := [some (.ref l0A), some (.ref l1A), some (.ref l2A), some (.int l3I), some (.int l4I), some (.int (0 : Int32)), some (.int (0 : Int32)), none]) (wkLs.le ⟨rfl, rfl, rfl, rfl, rfl, rfl, rfl, trivial⟩) (ih.2 _ _ _ _ _ _ _ _ hW hE hl0A hl1A hl2A h)
      · rw [if_neg c1] at h
        refine wk_iload C dX7_judgeNodes_55 rfl ?_
        refine wk_iconst C (v := 1) dX7_judgeNodes_57 (by decide) ?_
        refine wk_aload_n C dX7_judgeNodes_58 rfl rfl ?_
        refine wk_iload C dX7_judgeNodes_59 rfl ?_
        refine wk_callV C hR (As := [.int l5I]) (cnt := 1) (tX9_at (l := l) hW hl2A h) rfl (wkGoodV (List.mem_of_getElem? (i := 2) rfl) (List.mem_of_getElem? (i := 3) rfl) (List.mem_of_getElem? (i := 4) rfl) (List.mem_of_getElem? (i := 5) rfl) hbX7_judgeNodes_X9_at gdX9_at) (Nat.le_trans (by decide : 0 + 1 ≤ 2) hd) (by decide) hl2A.1 (fun cy => wAt_9 cy _ hl2A.2) rfl ⟨by decide, by decide, by decide +kernel⟩ rfl rfl (Nat.le_of_ble_eq_true rfl) (Nat.le_refl 0) (Nat.le_refl 0) dX7_judgeNodes_61 (fun v' S3 hp => ?_)
        obtain ⟨v2, rfl, h, hWS3, hXS3⟩ := hp
        refine wk_ishl C dX7_judgeNodes_64 rfl ?_
        refine wk_iconst C (v := (-1)) dX7_judgeNodes_65 (by decide) ?_
        refine wk_ixor C dX7_judgeNodes_66 rfl ?_
        refine wk_iand C dX7_judgeNodes_67 rfl ?_
        obtain ⟨x7, ex7, h⟩ := wkLt_some h
        refine wk_topi ex7 ?_
        refine wk_istore C (lv' := [some (.ref l0A), some (.ref l1A), some (.ref l2A), some (.int l3I), some (.int x7), some (.int l5I), none, none]) dX7_judgeNodes_68 (by decide) rfl ?_
        obtain ⟨x8, ex8, h⟩ := wkLt_some h
        refine wk_iinc C (lv' := [some (.ref l0A), some (.ref l1A), some (.ref l2A), some (.int l3I), some (.int x7), some (.int x8), none, none]) dX7_judgeNodes_70 rfl (by rw [ex8]; rfl) (by decide) rfl ?_
        refine wk_goto C (tgt := 46) dX7_judgeNodes_73 (by decide) ?_
        exact wk_forget (lv' := [some (.ref l0A), some (.ref l1A), some (.ref l2A), some (.int l3I), some (.int x7), some (.int x8), none, none]) (wkLs.le ⟨rfl, rfl, rfl, rfl, rfl, rfl, trivial⟩) (ih.1 _ _ _ _ _ _ _ hWS3 (wkExt.tr hE hXS3) (hXS3 _ _ hl0A) (hXS3 _ _ hl1A) (hXS3 _ _ hl2A) h)
    · intro l0A l1A l2A l3I l4I l5I l6I S hW hE hl0A hl1A hl2A h
      have h : rX7_judgeNodes_b1 F (rX7_judgeNodes_go F k') l0A l1A l2A l3I l4I l5I l6I S Φ := by
        rw [rX7_judgeNodes_go, if_neg (show ¬ (1 : Nat) = 0 by decide), if_pos (rfl : (1 : Nat) = 1)] at h
        exact h
      unfold rX7_judgeNodes_b1 at h
      refine wk_iload C dX7_judgeNodes_82 rfl ?_
      refine wk_iload_n C dX7_judgeNodes_84 rfl rfl ?_
      refine wk_icmp_ge C (tgt := 138) dX7_judgeNodes_85 (by decide) (fun c9 => ?_) (fun c9 => ?_)
      · rw [if_pos c9] at h
        refine wk_iload C dX7_judgeNodes_138 rfl ?_
        refine wk_aload_n C dX7_judgeNodes_140 rfl rfl ?_
        refine wk_get C (v := .int (gEntry_boundNow S l1A)) huX7_judgeNodes_3 hl1A.1 (fun cy => wAt_3 cy _ hl1A.2) rfl 8 (by decide) (List.mem_of_getElem? (i := 6) rfl) rfl rfl dX7_judgeNodes_141 ?_
        refine wk_aload_n C dX7_judgeNodes_144 rfl rfl ?_
        refine wk_get C (v := .int (gRow_count S l2A)) huX7_judgeNodes_9 hl2A.1 (fun cy => wAt_9 cy _ hl2A.2) rfl 1 (by decide) (List.mem_of_getElem? (i := 1) rfl) rfl rfl dX7_judgeNodes_145 ?_
        refine wk_iadd C dX7_judgeNodes_148 rfl ?_
        refine wk_icmp_le C (tgt := 156) dX7_judgeNodes_149 (by decide) (fun c10 => ?_) (fun c10 => ?_)
        · rw [if_pos c10] at h
          refine wk_iconst C (v := 2) dX7_judgeNodes_156 (by decide) ?_
          exact E _ _ _ _ _ _ (Nat.le_refl 0) (Nat.le_refl 0) dX7_judgeNodes_157 ⟨(2 : Int32), rfl, h, hW, hE⟩
        · rw [if_neg c10] at h
          refine wk_iconst C (v := 0) dX7_judgeNodes_152 (by decide) ?_
          refine wk_goto C (tgt := 157) dX7_judgeNodes_153 (by decide) ?_
          exact E _ _ _ _ _ _ (Nat.le_refl 0) (Nat.le_refl 0) dX7_judgeNodes_157 ⟨(0 : Int32), rfl, h, hW, hE⟩
      · rw [if_neg c9] at h
        refine wk_iload C dX7_judgeNodes_88 rfl ?_
        refine wk_iload C dX7_judgeNodes_90 rfl ?_
        refine wk_callN C hR (y := yX11_has) (host := "Witnessworks") (As := [.int l4I, .int l6I]) (cnt := 2) (tX11_has (l := l) hW  h) rfl (fun w h => ⟨hbX7_judgeNodes_X11_has w h, gdX11_has w h⟩) (by decide +kernel) (List.mem_of_getElem? (i := 7) rfl) (List.mem_of_getElem? (i := 8) rfl) (Nat.le_trans (by decide : 0 + 1 ≤ 2) hd) (by decide) ⟨by decide, by decide, by decide +kernel⟩ rfl rfl (Nat.le_of_ble_eq_true rfl) (Nat.le_refl 0) (Nat.le_refl 0) dX7_judgeNodes_92 (fun v' S12 hp => ?_)
        obtain ⟨v11, rfl, h, hWS12, hXS12⟩ := hp
        refine wk_if_eq C (tgt := 132) dX7_judgeNodes_95 (by decide) (fun c16 => ?_) (fun c16 => ?_)
        · rw [if_pos c16] at h
          obtain ⟨x17, ex17, h⟩ := wkLt_some h
          refine wk_iinc C (lv' := [some (.ref l0A), some (.ref l1A), some (.ref l2A), some (.int l3I), some (.int l4I), some (.int l5I), some (.int x17), none]) dX7_judgeNodes_132 rfl (by rw [ex17]; rfl) (by decide) rfl ?_
          refine wk_goto C (tgt := 82) dX7_judgeNodes_135 (by decide) ?_
          exact wk_forget (lv' := [some (.ref l0A), some (.ref l1A), some (.ref l2A), some (.int l3I), some (.int l4I), some (.int l5I), some (.int x17), none]) (wkLs.le ⟨rfl, rfl, rfl, rfl, rfl, rfl, rfl, trivial⟩) (ih.2 _ _ _ _ _ _ _ _ hWS12 (wkExt.tr hE hXS12) (hXS12 _ _ hl0A) (hXS12 _ _ hl1A) (hXS12 _ _ hl2A) h)
        · rw [if_neg c16] at h
          refine wk_aload_n C dX7_judgeNodes_98 rfl rfl ?_
          refine wk_get C huX7_judgeNodes_7 (hXS12 _ _ hl0A).1 (fun cy => wAt_7 cy _ (hXS12 _ _ hl0A).2) rfl 0 (by decide) (List.mem_of_getElem? (i := 9) rfl) rfl (congrArg some (congrArg va_rf (wf_Networks_near hWS12 (hXS12 _ _ hl0A)).1)) dX7_judgeNodes_99 ?_
          refine wk_iload C dX7_judgeNodes_102 rfl ?_
          refine wk_iload C dX7_judgeNodes_104 rfl ?_
          refine wk_callN C hR (y := yX11_hangingTogether) (host := "Witnessworks") (As := [.ref (wkAd (gNetworks_near S12 l0A)), .int l6I, .int l4I]) (cnt := 3) (tX11_hangingTogether (l := l) hWS12 (wf_Networks_near hWS12 (hXS12 _ _ hl0A)).2 h) rfl (fun w h => ⟨hbX7_judgeNodes_X11_hangingTogether w h, gdX11_hangingTogether w h⟩) (by decide +kernel) (List.mem_of_getElem? (i := 10) rfl) (List.mem_of_getElem? (i := 8) rfl) (Nat.le_trans (by decide : 0 + 1 ≤ 2) hd) (by decide) ⟨by decide, by decide, by decide +kernel⟩ rfl rfl (Nat.le_of_ble_eq_true rfl) (Nat.le_refl 0) (Nat.le_refl 0) dX7_judgeNodes_106 (fun v' S19 hp => ?_)
          obtain ⟨v18, rfl, h, hWS19, hXS19⟩ := hp
          refine wk_istore C (lv' := [some (.ref l0A), some (.ref l1A), some (.ref l2A), some (.int l3I), some (.int l4I), some (.int l5I), some (.int l6I), some (.int v18)]) dX7_judgeNodes_109 (by decide) rfl ?_
          refine wk_iload C dX7_judgeNodes_111 rfl ?_
          refine wk_iload C dX7_judgeNodes_113 rfl ?_
          refine wk_callW C hR (As := [.int v18]) (cnt := 1) (tJ6_bitCount_0f7a4 (l := l) hWS19  h) rfl (wkGoodW (List.mem_of_getElem? (i := 11) rfl) (List.mem_of_getElem? (i := 12) rfl) (List.mem_of_getElem? (i := 13) rfl) hbX7_judgeNodes_J6_bitCount_0f7a4 gdJ6_bitCount_0f7a4) (Nat.le_trans (by decide : 0 + 1 ≤ 2) hd) (by decide) ⟨by decide, by decide, by decide +kernel⟩ rfl rfl (Nat.le_of_ble_eq_true rfl) (Nat.le_refl 0) (Nat.le_refl 0) dX7_judgeNodes_115 (fun v' S24 hp => ?_)
          obtain ⟨v23, rfl, h, hWS24, hXS24⟩ := hp
          refine wk_iconst C (v := 2) dX7_judgeNodes_118 (by decide) ?_
          refine wk_irem C dX7_judgeNodes_119 (by decide) rfl ?_
          refine wk_iadd C dX7_judgeNodes_120 rfl ?_
          obtain ⟨x28, ex28, h⟩ := wkLt_some h
          refine wk_topi ex28 ?_
          refine wk_istore C (lv' := [some (.ref l0A), some (.ref l1A), some (.ref l2A), some (.int l3I), some (.int l4I), some (.int x28), some (.int l6I), some (.int v18)]) dX7_judgeNodes_121 (by decide) rfl ?_
          refine wk_iload C dX7_judgeNodes_123 rfl ?_
          refine wk_iload C dX7_judgeNodes_125 rfl ?_
          refine wk_iconst C (v := (-1)) dX7_judgeNodes_127 (by decide) ?_
          refine wk_ixor C dX7_judgeNodes_128 rfl ?_
          refine wk_iand C dX7_judgeNodes_129 rfl ?_
          obtain ⟨x29, ex29, h⟩ := wkLt_some h
          refine wk_topi ex29 ?_
          refine wk_istore C (lv' := [some (.ref l0A), some (.ref l1A), some (.ref l2A), some (.int l3I), some (.int x29), some (.int x28), some (.int l6I), some (.int v18)]) dX7_judgeNodes_130 (by decide) rfl ?_
          obtain ⟨x30, ex30, h⟩ := wkLt_some h
          refine wk_iinc C (lv' := [some (.ref l0A), some (.ref l1A), some (.ref l2A), some (.int l3I), some (.int x29), some (.int x28), some (.int x30), some (.int v18)]) dX7_judgeNodes_132 rfl (by rw [ex30]; rfl) (by decide) rfl ?_
          refine wk_goto C (tgt := 82) dX7_judgeNodes_135 (by decide) ?_
          exact wk_forget (lv' := [some (.ref l0A), some (.ref l1A), some (.ref l2A), some (.int l3I), some (.int x29), some (.int x28), some (.int x30), none]) (wkLs.le ⟨rfl, rfl, rfl, rfl, rfl, rfl, rfl, trivial⟩) (ih.2 _ _ _ _ _ _ _ _ hWS24 (wkExt.tr (wkExt.tr (wkExt.tr hE hXS12) hXS19) hXS24) (hXS24 _ _ (hXS19 _ _ (hXS12 _ _ hl0A))) (hXS24 _ _ (hXS19 _ _ (hXS12 _ _ hl1A))) (hXS24 _ _ (hXS19 _ _ (hXS12 _ _ hl2A))) h)
set_option maxHeartbeats 4000000 in
set_option maxRecDepth 100000 in
theorem tX7_judgeNodes {l : Launch} {g : wkG} {F : Nat}  {S : wPS} {l0A : Nat} {l1A : Nat} {l2A : Nat} {Φ : (Int32 → wPS → Prop)} (hW : wkWF S) (hl0A : wkIs S l0A 7) (hl1A : wkIs S l1A 3) (hl2A : wkIs S l2A 9) (h : rX7_judgeNodes F l0A l1A l2A S Φ) : wkMet l g yX7_judgeNodes wvX7_judgeNodes 2 0 0 [.ref l0A, .ref l1A, .ref l2A] S (fun v' S'' => ∃ v : Int32, v' = some (.int v) ∧ Φ v S'' ∧ wkWF S'' ∧ wkExt S S'') := by
  refine wkMet_of (ret := (some .int)) (by decide) rfl (Nat.le_of_ble_eq_true rfl) (fun X hg C hR E => ?_)
  subst hg
  have hE : wkExt S S := wkExt.rf
  have hd : 2 ≤ 2 := Nat.le_refl _
  show wkGo l X 8 0 0 0 S [some (.ref l0A), some (.ref l1A), some (.ref l2A), none, none, none, none, none] []
  have ih := tX7_judgeNodes_go (F := F) C hR hd E F
  have h : rX7_judgeNodes_s F (rX7_judgeNodes_go F F) l0A l1A l2A S Φ := h
  unfold rX7_judgeNodes_s at h
  refine wk_aload_n C dX7_judgeNodes_0 rfl rfl ?_
  refine wk_get C (v := .int (gEntry_size S l1A)) huX7_judgeNodes_3 hl1A.1 (fun cy => wAt_3 cy _ hl1A.2) rfl 1 (by decide) (List.mem_of_getElem? (i := 14) rfl) rfl rfl dX7_judgeNodes_1 ?_
  obtain ⟨x31, ex31, h⟩ := wkLt_some h
  refine wk_topi ex31 ?_
  refine wk_istore_n C (lv' := [some (.ref l0A), some (.ref l1A), some (.ref l2A), some (.int x31), none, none, none, none]) dX7_judgeNodes_4 rfl (by decide) rfl ?_
  refine wk_aload_n C dX7_judgeNodes_5 rfl rfl ?_
  refine wk_iconst C (v := 0) dX7_judgeNodes_6 (by decide) ?_
  refine wk_iconst C (v := 0) dX7_judgeNodes_7 (by decide) ?_
  refine wk_iload_n C dX7_judgeNodes_8 rfl rfl ?_
  refine wk_iconst C (v := 1) dX7_judgeNodes_9 (by decide) ?_
  refine wk_isub C dX7_judgeNodes_10 rfl ?_
  refine wk_callV C hR (As := [.int (0 : Int32), .int (0 : Int32), .int (x31 - (1 : Int32))]) (cnt := 3) (tX9_liesWithin (l := l) hW hl2A h) rfl (wkGoodV (List.mem_of_getElem? (i := 15) rfl) (List.mem_of_getElem? (i := 16) rfl) (List.mem_of_getElem? (i := 17) rfl) (List.mem_of_getElem? (i := 5) rfl) hbX7_judgeNodes_X9_liesWithin gdX9_liesWithin) (Nat.le_trans (by decide : 0 + 1 ≤ 2) hd) (by decide) hl2A.1 (fun cy => wAt_9 cy _ hl2A.2) rfl ⟨by decide, by decide, by decide +kernel⟩ rfl rfl (Nat.le_of_ble_eq_true rfl) (Nat.le_refl 0) (Nat.le_refl 0) dX7_judgeNodes_11 (fun v' S33 hp => ?_)
  obtain ⟨v32, rfl, h, hWS33, hXS33⟩ := hp
  refine wk_if_eq C (tgt := 25) dX7_judgeNodes_14 (by decide) (fun c37 => ?_) (fun c37 => ?_)
  · rw [if_pos c37] at h
    refine wk_iconst C (v := 1) dX7_judgeNodes_25 (by decide) ?_
    exact E _ _ _ _ _ _ (Nat.le_refl 0) (Nat.le_refl 0) dX7_judgeNodes_26 ⟨(1 : Int32), rfl, h, hWS33, (wkExt.tr hE hXS33)⟩
  · rw [if_neg c37] at h
    refine wk_aload_n C dX7_judgeNodes_17 rfl rfl ?_
    refine wk_iconst C (v := 0) dX7_judgeNodes_18 (by decide) ?_
    refine wk_callV C hR (As := [.int (0 : Int32)]) (cnt := 1) (tX9_isRising (l := l) hWS33 (hXS33 _ _ hl2A) h) rfl (wkGoodV (List.mem_of_getElem? (i := 18) rfl) (List.mem_of_getElem? (i := 19) rfl) (List.mem_of_getElem? (i := 20) rfl) (List.mem_of_getElem? (i := 5) rfl) hbX7_judgeNodes_X9_isRising gdX9_isRising) (Nat.le_trans (by decide : 0 + 1 ≤ 2) hd) (by decide) (hXS33 _ _ hl2A).1 (fun cy => wAt_9 cy _ (hXS33 _ _ hl2A).2) rfl ⟨by decide, by decide, by decide +kernel⟩ rfl rfl (Nat.le_of_ble_eq_true rfl) (Nat.le_refl 0) (Nat.le_refl 0) dX7_judgeNodes_19 (fun v' S39 hp => ?_)
    obtain ⟨v38, rfl, h, hWS39, hXS39⟩ := hp
    refine wk_if_ne C (tgt := 27) dX7_judgeNodes_22 (by decide) (fun c43 => ?_) (fun c43 => ?_)
    · rw [if_neg c43] at h
      refine wk_aload_n C dX7_judgeNodes_27 rfl rfl ?_
      refine wk_aload_n C dX7_judgeNodes_28 rfl rfl ?_
      refine wk_get C huX7_judgeNodes_7 (hXS39 _ _ (hXS33 _ _ hl0A)).1 (fun cy => wAt_7 cy _ (hXS39 _ _ (hXS33 _ _ hl0A)).2) rfl 0 (by decide) (List.mem_of_getElem? (i := 9) rfl) rfl (congrArg some (congrArg va_rf (wf_Networks_near hWS39 (hXS39 _ _ (hXS33 _ _ hl0A))).1)) dX7_judgeNodes_29 ?_
      refine wk_iconst C (v := (-1)) dX7_judgeNodes_32 (by decide) ?_
      refine wk_callV C hR (As := [.ref (wkAd (gNetworks_near S39 l0A)), .int (-1 : Int32)]) (cnt := 2) (tX3_fillNear (l := l) hWS39 (hXS39 _ _ (hXS33 _ _ hl1A)) (wf_Networks_near hWS39 (hXS39 _ _ (hXS33 _ _ hl0A))).2 h) rfl (wkGoodV (List.mem_of_getElem? (i := 21) rfl) (List.mem_of_getElem? (i := 22) rfl) (List.mem_of_getElem? (i := 23) rfl) (List.mem_of_getElem? (i := 24) rfl) hbX7_judgeNodes_X3_fillNear gdX3_fillNear) (Nat.le_trans (by decide : 1 + 1 ≤ 2) hd) (by decide) (hXS39 _ _ (hXS33 _ _ hl1A)).1 (fun cy => wAt_3 cy _ (hXS39 _ _ (hXS33 _ _ hl1A)).2) rfl ⟨by decide, by decide, by decide +kernel⟩ rfl rfl (Nat.le_of_ble_eq_true rfl) (Nat.le_refl 0) (Nat.le_refl 0) dX7_judgeNodes_33 (fun v' S45 hp => ?_)
      obtain ⟨v44, rfl, h, hWS45, hXS45⟩ := hp
      refine wk_iconst C (v := 1) dX7_judgeNodes_36 (by decide) ?_
      refine wk_iload_n C dX7_judgeNodes_37 rfl rfl ?_
      refine wk_ishl C dX7_judgeNodes_38 rfl ?_
      refine wk_iconst C (v := 1) dX7_judgeNodes_39 (by decide) ?_
      refine wk_isub C dX7_judgeNodes_40 rfl ?_
      obtain ⟨x49, ex49, h⟩ := wkLt_some h
      refine wk_topi ex49 ?_
      refine wk_istore C (lv' := [some (.ref l0A), some (.ref l1A), some (.ref l2A), some (.int x31), some (.int x49), none, none, none]) dX7_judgeNodes_41 (by decide) rfl ?_
      refine wk_iconst C (v := 0) dX7_judgeNodes_43 (by decide) ?_
      refine wk_istore C (lv' := [some (.ref l0A), some (.ref l1A), some (.ref l2A), some (.int x31), some (.int x49), some (.int (0 : Int32)), none, none]) dX7_judgeNodes_44 (by decide) rfl ?_
      exact wk_forget (lv' := [some (.ref l0A), some (.ref l1A), some (.ref l2A), some (.int x31), some (.int x49), some (.int (0 : Int32)), none, none]) (wkLs.le ⟨rfl, rfl, rfl, rfl, rfl, rfl, trivial⟩) (ih.1 _ _ _ _ _ _ _ hWS45 (wkExt.tr (wkExt.tr (wkExt.tr hE hXS33) hXS39) hXS45) (hXS45 _ _ (hXS39 _ _ (hXS33 _ _ hl0A))) (hXS45 _ _ (hXS39 _ _ (hXS33 _ _ hl1A))) (hXS45 _ _ (hXS39 _ _ (hXS33 _ _ hl2A))) h)
    · rw [if_pos c43] at h
      refine wk_iconst C (v := 1) dX7_judgeNodes_25 (by decide) ?_
      exact E _ _ _ _ _ _ (Nat.le_refl 0) (Nat.le_refl 0) dX7_judgeNodes_26 ⟨(1 : Int32), rfl, h, hWS39, (wkExt.tr (wkExt.tr hE hXS33) hXS39)⟩
def wvX7_reachBy : List Cond := .code yX7_reachBy cX7_reachBy 4 none :: (([.fieldLink RX7 150 "Witnessworks$Networks" "reached" "I", .static yX11_has, .initialized RX11, .fieldLink RX7 27 "Witnessworks$Networks" "flow" "[I", .fieldLink RX7 30 "Witnessworks$Networks" "via" "[I", .fieldLink RX7 18 "Witnessworks$Networks" "from" "[I", .fieldLink RX7 21 "Witnessworks$Networks" "to" "[I", .fieldLink RX7 24 "Witnessworks$Networks" "caps" "[I"] : List Cond) ++ ((wsX70) ++ (wvX11_has)))
theorem huX7_reachBy_7 : ∀ w ∈ u_ws RX7 TX7 11, w ∈ wvX7_reachBy := fun w h => List.mem_cons_of_mem _ (List.mem_append_right _ (List.mem_append_left _ h))
theorem hbX7_reachBy_X11_has : ∀ w ∈ wvX11_has, w ∈ wvX7_reachBy := fun w h => List.mem_cons_of_mem _ (List.mem_append_right _ (List.mem_append_right _ h))
theorem gdX7_reachBy : ∀ w ∈ wvX7_reachBy, wkGd w := wkGdC rfl (wkGdA (wkGdL (by decide +kernel)) (wkGdA gdX7 gdX11_has))
def rX7_reachBy_b0 (F : Nat) (rec : Nat → Nat → Int32 → Int32 → Int32 → wPS → (Unit → wPS → Prop) → Prop) (l0A : Nat) (l1I : Int32) (l2I : Int32) (l3I : Int32) (S : wPS) (Φ : (Unit → wPS → Prop)) : Prop :=
  rX11_has F (gNetworks_reached S l0A) l3I S fun v1 S2 => if v1 = 0 then (Φ () S2) else (rX11_has F (gNetworks_reached S2 l0A) l2I S2 fun v7 S8 => if v7 = 0 then (¬ (l1I < 0 ∨ S8.len (wkAd (gNetworks_flow S8 l0A)) ≤ (l1I).toNatClampNeg) ∧ if (S8.rI (wkAd (gNetworks_flow S8 l0A)) (l1I).toNatClampNeg) ≤ 0 then (Φ () S8) else (wkLt (wu_Networks_reached S8 l0A ((gNetworks_reached S8 l0A) ||| ((1 : Int32) <<< (l2I &&& 31)))) fun S15 => ¬ (l2I < 0 ∨ S15.len (wkAd (gNetworks_via S15 l0A)) ≤ (l2I).toNatClampNeg) ∧ wkLt (wuI S15 (wkAd (gNetworks_via S15 l0A)) l2I (((2 : Int32) * l1I) + (1 : Int32))) fun S17 => Φ () S17)) else (Φ () S8))
def rX7_reachBy_go (F : Nat) : Nat → Nat → Nat → Int32 → Int32 → Int32 → wPS → (Unit → wPS → Prop) → Prop
  | 0, _, _, _, _, _, _, _ => False
  | k' + 1, lab, l0A, l1I, l2I, l3I, S, Φ => if lab = 0 then rX7_reachBy_b0 F (rX7_reachBy_go F k') l0A l1I l2I l3I S Φ else False
def rX7_reachBy_s (F : Nat) (rec : Nat → Nat → Int32 → Int32 → Int32 → wPS → (Unit → wPS → Prop) → Prop) (l0A : Nat) (l1I : Int32) (S : wPS) (Φ : (Unit → wPS → Prop)) : Prop :=
  ¬ (l1I < 0 ∨ S.len (wkAd (gNetworks_from S l0A)) ≤ (l1I).toNatClampNeg) ∧ wkLt ((S.rI (wkAd (gNetworks_from S l0A)) (l1I).toNatClampNeg)) fun x19 => ¬ (l1I < 0 ∨ S.len (wkAd (gNetworks_to S l0A)) ≤ (l1I).toNatClampNeg) ∧ wkLt ((S.rI (wkAd (gNetworks_to S l0A)) (l1I).toNatClampNeg)) fun x21 => rX11_has F (gNetworks_reached S l0A) x19 S fun v22 S23 => if v22 = 0 then (rec 0 l0A l1I x19 x21 S23 Φ) else (rX11_has F (gNetworks_reached S23 l0A) x21 S23 fun v28 S29 => if v28 = 0 then (¬ (l1I < 0 ∨ S29.len (wkAd (gNetworks_flow S29 l0A)) ≤ (l1I).toNatClampNeg) ∧ ¬ (l1I < 0 ∨ S29.len (wkAd (gNetworks_caps S29 l0A)) ≤ (l1I).toNatClampNeg) ∧ if (S29.rI (wkAd (gNetworks_caps S29 l0A)) (l1I).toNatClampNeg) ≤ (S29.rI (wkAd (gNetworks_flow S29 l0A)) (l1I).toNatClampNeg) then (rec 0 l0A l1I x19 x21 S29 Φ) else (wkLt (wu_Networks_reached S29 l0A ((gNetworks_reached S29 l0A) ||| ((1 : Int32) <<< (x21 &&& 31)))) fun S37 => ¬ (x21 < 0 ∨ S37.len (wkAd (gNetworks_via S37 l0A)) ≤ (x21).toNatClampNeg) ∧ wkLt (wuI S37 (wkAd (gNetworks_via S37 l0A)) x21 ((2 : Int32) * l1I)) fun S39 => Φ () S39)) else (rec 0 l0A l1I x19 x21 S29 Φ))
def rX7_reachBy (F : Nat) (l0A : Nat) (l1I : Int32) (S : wPS) (Φ : (Unit → wPS → Prop)) : Prop := rX7_reachBy_s F (rX7_reachBy_go F F) l0A l1I S Φ
set_option maxHeartbeats 4000000 in
set_option maxRecDepth 100000 in
theorem tX7_reachBy_go {l : Launch} {X : wkX} {d F : Nat} {S0 : wPS} {Φ : (Unit → wPS → Prop)} (C : wkC X cX7_reachBy RX7 4 wvX7_reachBy) (hR : wkRm X d 0 0) (hd : 1 ≤ d) (E : wkEnd l X cX7_reachBy 4 none 0 0 (fun v' S'' => ∃ v : Unit, v' = none ∧ Φ v S'' ∧ wkWF S'' ∧ wkExt S0 S'')) : ∀ k' : Nat, (∀ (l0A : Nat) (l1I : Int32) (l2I : Int32) (l3I : Int32) (S : wPS), wkWF S → wkExt S0 S → wkIs S l0A 7 → rX7_reachBy_go F k' 0 l0A l1I l2I l3I S Φ → wkGo l X 4 0 0 75 S [some (.ref l0A), some (.int l1I), some (.int l2I), some (.int l3I)] []) := by
  intro k'
  induction k' with
  | zero => exact fun l0A l1I l2I l3I S hW hE hl0A h => h.elim
  | succ k' ih =>
    · intro l0A l1I l2I l3I S hW hE hl0A h
      have h : rX7_reachBy_b0 F (rX7_reachBy_go F k') l0A l1I l2I l3I S Φ := by
        rw [rX7_reachBy_go, if_pos (rfl : (0 : Nat) = 0)] at h
        exact h
      unfold rX7_reachBy_b0 at h
      refine wk_aload_n C dX7_reachBy_75 rfl rfl ?_
      refine wk_get C (v := .int (gNetworks_reached S l0A)) huX7_reachBy_7 hl0A.1 (fun cy => wAt_7 cy _ hl0A.2) rfl 10 (by decide) (List.mem_of_getElem? (i := 1) rfl) rfl rfl dX7_reachBy_76 ?_
      refine wk_iload_n C dX7_reachBy_79 rfl rfl ?_
      refine wk_callN C hR (y := yX11_has) (host := "Witnessworks") (As := [.int (gNetworks_reached S l0A), .int l3I]) (cnt := 2) (tX11_has (l := l) hW  h) rfl (fun w h => ⟨hbX7_reachBy_X11_has w h, gdX11_has w h⟩) (by decide +kernel) (List.mem_of_getElem? (i := 2) rfl) (List.mem_of_getElem? (i := 3) rfl) (Nat.le_trans (by decide : 0 + 1 ≤ 1) hd) (by decide) ⟨by decide, by decide, by decide +kernel⟩ rfl rfl (Nat.le_of_ble_eq_true rfl) (Nat.le_refl 0) (Nat.le_refl 0) dX7_reachBy_80 (fun v' S2 hp => ?_)
      obtain ⟨v1, rfl, h, hWS2, hXS2⟩ := hp
      refine wk_if_eq C (tgt := 129) dX7_reachBy_83 (by decide) (fun c6 => ?_) (fun c6 => ?_)
      · rw [if_pos c6] at h
        exact E _ _ _ _ _ (Nat.le_refl 0) (Nat.le_refl 0) dX7_reachBy_129 ⟨(), rfl, h, hWS2, (wkExt.tr hE hXS2)⟩
      · rw [if_neg c6] at h
        refine wk_aload_n C dX7_reachBy_86 rfl rfl ?_
        refine wk_get C (v := .int (gNetworks_reached S2 l0A)) huX7_reachBy_7 (hXS2 _ _ hl0A).1 (fun cy => wAt_7 cy _ (hXS2 _ _ hl0A).2) rfl 10 (by decide) (List.mem_of_getElem? (i := 1) rfl) rfl rfl dX7_reachBy_87 ?_
        refine wk_iload_n C dX7_reachBy_90 rfl rfl ?_
        refine wk_callN C hR (y := yX11_has) (host := "Witnessworks") (As := [.int (gNetworks_reached S2 l0A), .int l2I]) (cnt := 2) (tX11_has (l := l) hWS2  h) rfl (fun w h => ⟨hbX7_reachBy_X11_has w h, gdX11_has w h⟩) (by decide +kernel) (List.mem_of_getElem? (i := 2) rfl) (List.mem_of_getElem? (i := 3) rfl) (Nat.le_trans (by decide : 0 + 1 ≤ 1) hd) (by decide) ⟨by decide, by decide, by decide +kernel⟩ rfl rfl (Nat.le_of_ble_eq_true rfl) (Nat.le_refl 0) (Nat.le_refl 0) dX7_reachBy_91 (fun v' S8 hp => ?_)
        obtain ⟨v7, rfl, h, hWS8, hXS8⟩ := hp
        refine wk_if_ne C (tgt := 129) dX7_reachBy_94 (by decide) (fun c12 => ?_) (fun c12 => ?_)
        · rw [if_neg c12] at h
          exact E _ _ _ _ _ (Nat.le_refl 0) (Nat.le_refl 0) dX7_reachBy_129 ⟨(), rfl, h, hWS8, (wkExt.tr (wkExt.tr hE hXS2) hXS8)⟩
        · rw [if_pos c12] at h
          refine wk_aload_n C dX7_reachBy_97 rfl rfl ?_
          refine wk_get C huX7_reachBy_7 (hXS8 _ _ (hXS2 _ _ hl0A)).1 (fun cy => wAt_7 cy _ (hXS8 _ _ (hXS2 _ _ hl0A)).2) rfl 5 (by decide) (List.mem_of_getElem? (i := 4) rfl) rfl (congrArg some (congrArg va_rf (wf_Networks_flow hWS8 (hXS8 _ _ (hXS2 _ _ hl0A))).1)) dX7_reachBy_98 ?_
          refine wk_iload_n C dX7_reachBy_101 rfl rfl ?_
          obtain ⟨i13, h⟩ := h
          refine wk_iald C (wf_Networks_flow hWS8 (hXS8 _ _ (hXS2 _ _ hl0A))).2.1 (wf_Networks_flow hWS8 (hXS8 _ _ (hXS2 _ _ hl0A))).2.2 i13 rfl dX7_reachBy_102 ?_
          refine wk_if_le C (tgt := 129) dX7_reachBy_103 (by decide) (fun c14 => ?_) (fun c14 => ?_)
          · rw [if_pos c14] at h
            exact E _ _ _ _ _ (Nat.le_refl 0) (Nat.le_refl 0) dX7_reachBy_129 ⟨(), rfl, h, hWS8, (wkExt.tr (wkExt.tr hE hXS2) hXS8)⟩
          · rw [if_neg c14] at h
            refine wk_aload_n C dX7_reachBy_106 rfl rfl ?_
            refine wk_dup C dX7_reachBy_107 rfl ?_
            refine wk_get C (v := .int (gNetworks_reached S8 l0A)) huX7_reachBy_7 (hXS8 _ _ (hXS2 _ _ hl0A)).1 (fun cy => wAt_7 cy _ (hXS8 _ _ (hXS2 _ _ hl0A)).2) rfl 10 (by decide) (List.mem_of_getElem? (i := 1) rfl) rfl rfl dX7_reachBy_108 ?_
            refine wk_iconst C (v := 1) dX7_reachBy_111 (by decide) ?_
            refine wk_iload_n C dX7_reachBy_112 rfl rfl ?_
            refine wk_ishl C dX7_reachBy_113 rfl ?_
            refine wk_ior C dX7_reachBy_114 rfl ?_
            obtain ⟨S15, eS15, h⟩ := wkLt_some h
            refine wk_put C (S' := S15) huX7_reachBy_7 (hXS8 _ _ (hXS2 _ _ hl0A)).1 (fun cy => wAt_7 cy _ (hXS8 _ _ (hXS2 _ _ hl0A)).2) rfl 10 (by decide) (List.mem_of_getElem? (i := 1) rfl) rfl tyX7_ok nmX7 rfl (ty := .int) rfl rfl rfl (by show 10 < 11; decide) (fun cy b => by rw [eS15]; exact wSt_7_10 cy _ (hXS8 _ _ (hXS2 _ _ hl0A)).2 _ b) (by rw [eS15]) dX7_reachBy_115 ?_
            have hWS15 : wkWF S15 := by rw [eS15]; exact hWS8
            have hXS15 : wkExt S8 S15 := by rw [eS15]; exact wkExt.rf
            refine wk_aload_n C dX7_reachBy_118 rfl rfl ?_
            refine wk_get C huX7_reachBy_7 (hXS15 _ _ (hXS8 _ _ (hXS2 _ _ hl0A))).1 (fun cy => wAt_7 cy _ (hXS15 _ _ (hXS8 _ _ (hXS2 _ _ hl0A))).2) rfl 6 (by decide) (List.mem_of_getElem? (i := 5) rfl) rfl (congrArg some (congrArg va_rf (wf_Networks_via hWS15 (hXS15 _ _ (hXS8 _ _ (hXS2 _ _ hl0A)))).1)) dX7_reachBy_119 ?_
            refine wk_iload_n C dX7_reachBy_122 rfl rfl ?_
            refine wk_iconst C (v := 2) dX7_reachBy_123 (by decide) ?_
            refine wk_iload_n C dX7_reachBy_124 rfl rfl ?_
            refine wk_imul C dX7_reachBy_125 rfl ?_
            refine wk_iconst C (v := 1) dX7_reachBy_126 (by decide) ?_
            refine wk_iadd C dX7_reachBy_127 rfl ?_
            obtain ⟨i16, h⟩ := h
            obtain ⟨S17, eS17, h⟩ := wkLt_some h
            refine wk_iast C (wf_Networks_via hWS15 (hXS15 _ _ (hXS8 _ _ (hXS2 _ _ hl0A)))).2.1 (wf_Networks_via hWS15 (hXS15 _ _ (hXS8 _ _ (hXS2 _ _ hl0A)))).2.2 i16 eS17.symm dX7_reachBy_128 ?_
            have hWS17 : wkWF S17 := by rw [eS17]; exact hWS15
            have hXS17 : wkExt S15 S17 := by rw [eS17]; exact wkExt.rf
            exact E _ _ _ _ _ (Nat.le_refl 0) (Nat.le_refl 0) dX7_reachBy_129 ⟨(), rfl, h, hWS17, (wkExt.tr (wkExt.tr (wkExt.tr (wkExt.tr hE hXS2) hXS8) hXS15) hXS17)⟩
set_option maxHeartbeats 4000000 in
set_option maxRecDepth 100000 in
theorem tX7_reachBy {l : Launch} {g : wkG} {F : Nat}  {S : wPS} {l0A : Nat} {l1I : Int32} {Φ : (Unit → wPS → Prop)} (hW : wkWF S) (hl0A : wkIs S l0A 7) (h : rX7_reachBy F l0A l1I S Φ) : wkMet l g yX7_reachBy wvX7_reachBy 1 0 0 [.ref l0A, .int l1I] S (fun v' S'' => ∃ v : Unit, v' = none ∧ Φ v S'' ∧ wkWF S'' ∧ wkExt S S'') := by
  refine wkMet_of (ret := none) (by decide) rfl (Nat.le_of_ble_eq_true rfl) (fun X hg C hR E => ?_)
  subst hg
  have hE : wkExt S S := wkExt.rf
  have hd : 1 ≤ 1 := Nat.le_refl _
  show wkGo l X 4 0 0 0 S [some (.ref l0A), some (.int l1I), none, none] []
  have ih := tX7_reachBy_go (F := F) C hR hd E F
  have h : rX7_reachBy_s F (rX7_reachBy_go F F) l0A l1I S Φ := h
  unfold rX7_reachBy_s at h
  refine wk_aload_n C dX7_reachBy_0 rfl rfl ?_
  refine wk_get C huX7_reachBy_7 hl0A.1 (fun cy => wAt_7 cy _ hl0A.2) rfl 2 (by decide) (List.mem_of_getElem? (i := 6) rfl) rfl (congrArg some (congrArg va_rf (wf_Networks_from hW hl0A).1)) dX7_reachBy_1 ?_
  refine wk_iload_n C dX7_reachBy_4 rfl rfl ?_
  obtain ⟨i18, h⟩ := h
  refine wk_iald C (wf_Networks_from hW hl0A).2.1 (wf_Networks_from hW hl0A).2.2 i18 rfl dX7_reachBy_5 ?_
  obtain ⟨x19, ex19, h⟩ := wkLt_some h
  refine wk_topi ex19 ?_
  refine wk_istore_n C (lv' := [some (.ref l0A), some (.int l1I), some (.int x19), none]) dX7_reachBy_6 rfl (by decide) rfl ?_
  refine wk_aload_n C dX7_reachBy_7 rfl rfl ?_
  refine wk_get C huX7_reachBy_7 hl0A.1 (fun cy => wAt_7 cy _ hl0A.2) rfl 3 (by decide) (List.mem_of_getElem? (i := 7) rfl) rfl (congrArg some (congrArg va_rf (wf_Networks_to hW hl0A).1)) dX7_reachBy_8 ?_
  refine wk_iload_n C dX7_reachBy_11 rfl rfl ?_
  obtain ⟨i20, h⟩ := h
  refine wk_iald C (wf_Networks_to hW hl0A).2.1 (wf_Networks_to hW hl0A).2.2 i20 rfl dX7_reachBy_12 ?_
  obtain ⟨x21, ex21, h⟩ := wkLt_some h
  refine wk_topi ex21 ?_
  refine wk_istore_n C (lv' := [some (.ref l0A), some (.int l1I), some (.int x19), some (.int x21)]) dX7_reachBy_13 rfl (by decide) rfl ?_
  refine wk_aload_n C dX7_reachBy_14 rfl rfl ?_
  refine wk_get C (v := .int (gNetworks_reached S l0A)) huX7_reachBy_7 hl0A.1 (fun cy => wAt_7 cy _ hl0A.2) rfl 10 (by decide) (List.mem_of_getElem? (i := 1) rfl) rfl rfl dX7_reachBy_15 ?_
  refine wk_iload_n C dX7_reachBy_18 rfl rfl ?_
  refine wk_callN C hR (y := yX11_has) (host := "Witnessworks") (As := [.int (gNetworks_reached S l0A), .int x19]) (cnt := 2) (tX11_has (l := l) hW  h) rfl (fun w h => ⟨hbX7_reachBy_X11_has w h, gdX11_has w h⟩) (by decide +kernel) (List.mem_of_getElem? (i := 2) rfl) (List.mem_of_getElem? (i := 3) rfl) (Nat.le_trans (by decide : 0 + 1 ≤ 1) hd) (by decide) ⟨by decide, by decide, by decide +kernel⟩ rfl rfl (Nat.le_of_ble_eq_true rfl) (Nat.le_refl 0) (Nat.le_refl 0) dX7_reachBy_19 (fun v' S23 hp => ?_)
  obtain ⟨v22, rfl, h, hWS23, hXS23⟩ := hp
  refine wk_if_eq C (tgt := 75) dX7_reachBy_22 (by decide) (fun c27 => ?_) (fun c27 => ?_)
  · rw [if_pos c27] at h
    exact wk_forget (lv' := [some (.ref l0A), some (.int l1I), some (.int x19), some (.int x21)]) (wkLs.le ⟨rfl, rfl, rfl, rfl, trivial⟩) (ih _ _ _ _ _ hWS23 (wkExt.tr hE hXS23) (hXS23 _ _ hl0A) h)
  · rw [if_neg c27] at h
    refine wk_aload_n C dX7_reachBy_25 rfl rfl ?_
    refine wk_get C (v := .int (gNetworks_reached S23 l0A)) huX7_reachBy_7 (hXS23 _ _ hl0A).1 (fun cy => wAt_7 cy _ (hXS23 _ _ hl0A).2) rfl 10 (by decide) (List.mem_of_getElem? (i := 1) rfl) rfl rfl dX7_reachBy_26 ?_
    refine wk_iload_n C dX7_reachBy_29 rfl rfl ?_
    refine wk_callN C hR (y := yX11_has) (host := "Witnessworks") (As := [.int (gNetworks_reached S23 l0A), .int x21]) (cnt := 2) (tX11_has (l := l) hWS23  h) rfl (fun w h => ⟨hbX7_reachBy_X11_has w h, gdX11_has w h⟩) (by decide +kernel) (List.mem_of_getElem? (i := 2) rfl) (List.mem_of_getElem? (i := 3) rfl) (Nat.le_trans (by decide : 0 + 1 ≤ 1) hd) (by decide) ⟨by decide, by decide, by decide +kernel⟩ rfl rfl (Nat.le_of_ble_eq_true rfl) (Nat.le_refl 0) (Nat.le_refl 0) dX7_reachBy_30 (fun v' S29 hp => ?_)
    obtain ⟨v28, rfl, h, hWS29, hXS29⟩ := hp
    refine wk_if_ne C (tgt := 75) dX7_reachBy_33 (by decide) (fun c33 => ?_) (fun c33 => ?_)
    · rw [if_neg c33] at h
      exact wk_forget (lv' := [some (.ref l0A), some (.int l1I), some (.int x19), some (.int x21)]) (wkLs.le ⟨rfl, rfl, rfl, rfl, trivial⟩) (ih _ _ _ _ _ hWS29 (wkExt.tr (wkExt.tr hE hXS23) hXS29) (hXS29 _ _ (hXS23 _ _ hl0A)) h)
    · rw [if_pos c33] at h
      refine wk_aload_n C dX7_reachBy_36 rfl rfl ?_
      refine wk_get C huX7_reachBy_7 (hXS29 _ _ (hXS23 _ _ hl0A)).1 (fun cy => wAt_7 cy _ (hXS29 _ _ (hXS23 _ _ hl0A)).2) rfl 5 (by decide) (List.mem_of_getElem? (i := 4) rfl) rfl (congrArg some (congrArg va_rf (wf_Networks_flow hWS29 (hXS29 _ _ (hXS23 _ _ hl0A))).1)) dX7_reachBy_37 ?_
      refine wk_iload_n C dX7_reachBy_40 rfl rfl ?_
      obtain ⟨i34, h⟩ := h
      refine wk_iald C (wf_Networks_flow hWS29 (hXS29 _ _ (hXS23 _ _ hl0A))).2.1 (wf_Networks_flow hWS29 (hXS29 _ _ (hXS23 _ _ hl0A))).2.2 i34 rfl dX7_reachBy_41 ?_
      refine wk_aload_n C dX7_reachBy_42 rfl rfl ?_
      refine wk_get C huX7_reachBy_7 (hXS29 _ _ (hXS23 _ _ hl0A)).1 (fun cy => wAt_7 cy _ (hXS29 _ _ (hXS23 _ _ hl0A)).2) rfl 4 (by decide) (List.mem_of_getElem? (i := 8) rfl) rfl (congrArg some (congrArg va_rf (wf_Networks_caps hWS29 (hXS29 _ _ (hXS23 _ _ hl0A))).1)) dX7_reachBy_43 ?_
      refine wk_iload_n C dX7_reachBy_46 rfl rfl ?_
      obtain ⟨i35, h⟩ := h
      refine wk_iald C (wf_Networks_caps hWS29 (hXS29 _ _ (hXS23 _ _ hl0A))).2.1 (wf_Networks_caps hWS29 (hXS29 _ _ (hXS23 _ _ hl0A))).2.2 i35 rfl dX7_reachBy_47 ?_
      refine wk_icmp_ge C (tgt := 75) dX7_reachBy_48 (by decide) (fun c36 => ?_) (fun c36 => ?_)
      · rw [if_pos c36] at h
        exact wk_forget (lv' := [some (.ref l0A), some (.int l1I), some (.int x19), some (.int x21)]) (wkLs.le ⟨rfl, rfl, rfl, rfl, trivial⟩) (ih _ _ _ _ _ hWS29 (wkExt.tr (wkExt.tr hE hXS23) hXS29) (hXS29 _ _ (hXS23 _ _ hl0A)) h)
      · rw [if_neg c36] at h
        refine wk_aload_n C dX7_reachBy_51 rfl rfl ?_
        refine wk_dup C dX7_reachBy_52 rfl ?_
        refine wk_get C (v := .int (gNetworks_reached S29 l0A)) huX7_reachBy_7 (hXS29 _ _ (hXS23 _ _ hl0A)).1 (fun cy => wAt_7 cy _ (hXS29 _ _ (hXS23 _ _ hl0A)).2) rfl 10 (by decide) (List.mem_of_getElem? (i := 1) rfl) rfl rfl dX7_reachBy_53 ?_
        refine wk_iconst C (v := 1) dX7_reachBy_56 (by decide) ?_
        refine wk_iload_n C dX7_reachBy_57 rfl rfl ?_
        refine wk_ishl C dX7_reachBy_58 rfl ?_
        refine wk_ior C dX7_reachBy_59 rfl ?_
        obtain ⟨S37, eS37, h⟩ := wkLt_some h
        refine wk_put C (S' := S37) huX7_reachBy_7 (hXS29 _ _ (hXS23 _ _ hl0A)).1 (fun cy => wAt_7 cy _ (hXS29 _ _ (hXS23 _ _ hl0A)).2) rfl 10 (by decide) (List.mem_of_getElem? (i := 1) rfl) rfl tyX7_ok nmX7 rfl (ty := .int) rfl rfl rfl (by show 10 < 11; decide) (fun cy b => by rw [eS37]; exact wSt_7_10 cy _ (hXS29 _ _ (hXS23 _ _ hl0A)).2 _ b) (by rw [eS37]) dX7_reachBy_60 ?_
        have hWS37 : wkWF S37 := by rw [eS37]; exact hWS29
        have hXS37 : wkExt S29 S37 := by rw [eS37]; exact wkExt.rf
        refine wk_aload_n C dX7_reachBy_63 rfl rfl ?_
        refine wk_get C huX7_reachBy_7 (hXS37 _ _ (hXS29 _ _ (hXS23 _ _ hl0A))).1 (fun cy => wAt_7 cy _ (hXS37 _ _ (hXS29 _ _ (hXS23 _ _ hl0A))).2) rfl 6 (by decide) (List.mem_of_getElem? (i := 5) rfl) rfl (congrArg some (congrArg va_rf (wf_Networks_via hWS37 (hXS37 _ _ (hXS29 _ _ (hXS23 _ _ hl0A)))).1)) dX7_reachBy_64 ?_
        refine wk_iload_n C dX7_reachBy_67 rfl rfl ?_
        refine wk_iconst C (v := 2) dX7_reachBy_68 (by decide) ?_
        refine wk_iload_n C dX7_reachBy_69 rfl rfl ?_
        refine wk_imul C dX7_reachBy_70 rfl ?_
        obtain ⟨i38, h⟩ := h
        obtain ⟨S39, eS39, h⟩ := wkLt_some h
        refine wk_iast C (wf_Networks_via hWS37 (hXS37 _ _ (hXS29 _ _ (hXS23 _ _ hl0A)))).2.1 (wf_Networks_via hWS37 (hXS37 _ _ (hXS29 _ _ (hXS23 _ _ hl0A)))).2.2 i38 eS39.symm dX7_reachBy_71 ?_
        have hWS39 : wkWF S39 := by rw [eS39]; exact hWS37
        have hXS39 : wkExt S37 S39 := by rw [eS39]; exact wkExt.rf
        refine wk_goto C (tgt := 129) dX7_reachBy_72 (by decide) ?_
        exact E _ _ _ _ _ (Nat.le_refl 0) (Nat.le_refl 0) dX7_reachBy_129 ⟨(), rfl, h, hWS39, (wkExt.tr (wkExt.tr (wkExt.tr (wkExt.tr hE hXS23) hXS29) hXS37) hXS39)⟩
