def wvX10_writeRows : List Cond := .code yX10_writeRows cX10_writeRows 5 none :: (([.fieldLink RX10 71 "Witnessworks$Words" "size" "I", .methodLink RX10 121 yX9_clear, .instanceMethod yX9_clear, .selects RX9 yX9_clear yX9_clear, .initialized RX9, .methodLink RX10 115 yX9_add, .instanceMethod yX9_add, .selects RX9 yX9_add yX9_add, .fieldLink RX10 16 "Witnessworks$Words" "goal" "[I", .methodLink RX10 124 yX10_codeOf, .static yX10_codeOf, .initialized RX10, .methodLink RX10 134 yX9_holds, .instanceMethod yX9_holds, .selects RX9 yX9_holds yX9_holds, .fieldLink RX10 32 "Witnessworks$Words" "cameBy" "[I", .fieldLink RX10 20 "Witnessworks$Words" "points" "[I", .methodLink RX10 104 yX10_writePoints, .instanceMethod yX10_writePoints, .selects RX10 yX10_writePoints yX10_writePoints, .fieldLink RX10 128 "Witnessworks$Row" "count" "I", .methodLink RX10 131 yX9_at, .instanceMethod yX9_at, .selects RX9 yX9_at yX9_at] : List Cond) ++ ((wsX100 ++ (wsX90)) ++ (wvX9_clear ++ (wvX9_add ++ (wvX10_codeOf ++ (wvX9_holds ++ (wvX10_writePoints ++ (wvX9_at))))))))
theorem huX10_writeRows_10 : ∀ w ∈ u_ws RX10 TX10 12, w ∈ wvX10_writeRows := fun w h => List.mem_cons_of_mem _ (List.mem_append_right _ (List.mem_append_left _ (List.mem_append_left _ h)))
theorem huX10_writeRows_9 : ∀ w ∈ u_ws RX9 TX9 2, w ∈ wvX10_writeRows := fun w h => List.mem_cons_of_mem _ (List.mem_append_right _ (List.mem_append_left _ (List.mem_append_right _ h)))
theorem hbX10_writeRows_X9_clear : ∀ w ∈ wvX9_clear, w ∈ wvX10_writeRows := fun w h => List.mem_cons_of_mem _ (List.mem_append_right _ (List.mem_append_right _ (List.mem_append_left _ h)))
theorem hbX10_writeRows_X9_add : ∀ w ∈ wvX9_add, w ∈ wvX10_writeRows := fun w h => List.mem_cons_of_mem _ (List.mem_append_right _ (List.mem_append_right _ (List.mem_append_right _ (List.mem_append_left _ h))))
theorem hbX10_writeRows_X10_codeOf : ∀ w ∈ wvX10_codeOf, w ∈ wvX10_writeRows := fun w h => List.mem_cons_of_mem _ (List.mem_append_right _ (List.mem_append_right _ (List.mem_append_right _ (List.mem_append_right _ (List.mem_append_left _ h)))))
theorem hbX10_writeRows_X9_holds : ∀ w ∈ wvX9_holds, w ∈ wvX10_writeRows := fun w h => List.mem_cons_of_mem _ (List.mem_append_right _ (List.mem_append_right _ (List.mem_append_right _ (List.mem_append_right _ (List.mem_append_right _ (List.mem_append_left _ h))))))
theorem hbX10_writeRows_X10_writePoints : ∀ w ∈ wvX10_writePoints, w ∈ wvX10_writeRows := fun w h => List.mem_cons_of_mem _ (List.mem_append_right _ (List.mem_append_right _ (List.mem_append_right _ (List.mem_append_right _ (List.mem_append_right _ (List.mem_append_right _ (List.mem_append_left _ h)))))))
theorem hbX10_writeRows_X9_at : ∀ w ∈ wvX9_at, w ∈ wvX10_writeRows := fun w h => List.mem_cons_of_mem _ (List.mem_append_right _ (List.mem_append_right _ (List.mem_append_right _ (List.mem_append_right _ (List.mem_append_right _ (List.mem_append_right _ (List.mem_append_right _ h)))))))
theorem gdX10_writeRows : ∀ w ∈ wvX10_writeRows, wkGd w := wkGdC rfl (wkGdA (wkGdL (by decide +kernel)) (wkGdA (wkGdA gdX10 gdX9) (wkGdA gdX9_clear (wkGdA gdX9_add (wkGdA gdX10_codeOf (wkGdA gdX9_holds (wkGdA gdX10_writePoints gdX9_at)))))))
def rX10_writeRows_b0 (F : Nat) (k n : Nat) (rec : Nat → Nat → Nat → Nat → Nat → Int32 → Int32 → wPS → (Unit → wPS → Prop) → Prop) (c s : Nat) (l0A : Nat) (l1A : Nat) (l2I : Int32) (S : wPS) (Φ : (Unit → wPS → Prop)) : Prop :=
  if (gWords_size S l0A) < l2I then (Φ () S) else (rX9_clear F l1A S fun v2 S3 => ∃ k10 n11 : Nat, c + k10 ≤ k ∧ s + n11 ≤ n ∧ rX9_add F k10 n11 l1A l2I S3 fun v7 S8 => rec 1 (c + k10) (s + n11) l0A l1A l2I (0 : Int32) S8 Φ)
def rX10_writeRows_b1 (F : Nat) (k n : Nat) (rec : Nat → Nat → Nat → Nat → Nat → Int32 → Int32 → wPS → (Unit → wPS → Prop) → Prop) (c s : Nat) (l0A : Nat) (l1A : Nat) (l2I : Int32) (l3I : Int32) (S : wPS) (Φ : (Unit → wPS → Prop)) : Prop :=
  if (720 : Int32) ≤ l3I then (rX10_codeOf F (wkAd (gWords_goal S l0A)) l2I S fun v13 S14 => rX9_holds F l1A (1 : Int32) v13 S14 fun v18 S19 => if v18 = 0 then (Φ () S19) else (wkLt (l2I + (1 : Int32)) fun x24 => rec 0 c s l0A l1A x24 0 S19 Φ)) else (¬ (l3I < 0 ∨ S.len (wkAd (gWords_cameBy S l0A)) ≤ (l3I).toNatClampNeg) ∧ if (S.rI (wkAd (gWords_cameBy S l0A)) (l3I).toNatClampNeg) < 0 then (wkLt (l3I + (1 : Int32)) fun x27 => rec 1 c s l0A l1A l2I x27 S Φ) else (rX10_writePoints F l0A l3I (wkAd (gWords_points S l0A)) S fun v28 S29 => rX10_codeOf F (wkAd (gWords_points S29 l0A)) l2I S29 fun v33 S34 => if (gRow_count S34 l1A) = (1 : Int32) then (∃ k42 n43 : Nat, c + k42 ≤ k ∧ s + n43 ≤ n ∧ rX9_add F k42 n43 l1A v33 S34 fun v39 S40 => wkLt (l3I + (1 : Int32)) fun x44 => rec 1 (c + k42) (s + n43) l0A l1A l2I x44 S40 Φ) else (rX9_at F l1A ((gRow_count S34 l1A) - (1 : Int32)) S34 fun v45 S46 => if v45 = v33 then (wkLt (l3I + (1 : Int32)) fun x51 => rec 1 c s l0A l1A l2I x51 S46 Φ) else (∃ k55 n56 : Nat, c + k55 ≤ k ∧ s + n56 ≤ n ∧ rX9_add F k55 n56 l1A v33 S46 fun v52 S53 => wkLt (l3I + (1 : Int32)) fun x57 => rec 1 (c + k55) (s + n56) l0A l1A l2I x57 S53 Φ))))
def rX10_writeRows_go (F : Nat) (k n : Nat) : Nat → Nat → Nat → Nat → Nat → Nat → Int32 → Int32 → wPS → (Unit → wPS → Prop) → Prop
  | 0, _, _, _, _, _, _, _, _, _ => False
  | k' + 1, lab, c, s, l0A, l1A, l2I, l3I, S, Φ => if lab = 0 then rX10_writeRows_b0 F k n (rX10_writeRows_go F k n k') c s l0A l1A l2I S Φ else if lab = 1 then rX10_writeRows_b1 F k n (rX10_writeRows_go F k n k') c s l0A l1A l2I l3I S Φ else False
def rX10_writeRows_s (F : Nat) (k n : Nat) (rec : Nat → Nat → Nat → Nat → Nat → Int32 → Int32 → wPS → (Unit → wPS → Prop) → Prop) (l0A : Nat) (l1A : Nat) (S : wPS) (Φ : (Unit → wPS → Prop)) : Prop :=
  rec 0 0 0 l0A l1A (1 : Int32) 0 S Φ
def rX10_writeRows (F : Nat) (k n : Nat) (l0A : Nat) (l1A : Nat) (S : wPS) (Φ : (Unit → wPS → Prop)) : Prop := rX10_writeRows_s F k n (rX10_writeRows_go F k n F) l0A l1A S Φ
set_option maxHeartbeats 4000000 in
set_option maxRecDepth 100000 in
theorem tX10_writeRows_go {k n : Nat} {l : Launch} {X : wkX} {d F : Nat} {S0 : wPS} {Φ : (Unit → wPS → Prop)} (C : wkC X cX10_writeRows RX10 5 wvX10_writeRows) (hR : wkRm X d k n) (hd : 3 ≤ d) (E : wkEnd l X cX10_writeRows 5 none k n (fun v' S'' => ∃ v : Unit, v' = none ∧ Φ v S'' ∧ wkWF S'' ∧ wkExt S0 S'')) : ∀ k' : Nat, (∀ (c s : Nat), c ≤ k → s ≤ n → ∀ (l0A : Nat) (l1A : Nat) (l2I : Int32) (S : wPS), wkWF S → wkExt S0 S → wkIs S l0A 10 → wkIs S l1A 9 → rX10_writeRows_go F k n k' 0 c s l0A l1A l2I 0 S Φ → wkGo l X 5 c s 2 S [some (.ref l0A), some (.ref l1A), some (.int l2I), none, none] []) ∧ (∀ (c s : Nat), c ≤ k → s ≤ n → ∀ (l0A : Nat) (l1A : Nat) (l2I : Int32) (l3I : Int32) (S : wPS), wkWF S → wkExt S0 S → wkIs S l0A 10 → wkIs S l1A 9 → rX10_writeRows_go F k n k' 1 c s l0A l1A l2I l3I S Φ → wkGo l X 5 c s 21 S [some (.ref l0A), some (.ref l1A), some (.int l2I), some (.int l3I), none] []) := by
  intro k'
  induction k' with
  | zero => exact ⟨fun c s hc hs l0A l1A l2I S hW hE hl0A hl1A h => h.elim, fun c s hc hs l0A l1A l2I l3I S hW hE hl0A hl1A h => h.elim⟩
  | succ k' ih =>
    refine ⟨?_, ?_⟩
    · intro c s hc hs l0A l1A l2I S hW hE hl0A hl1A h
      have h : rX10_writeRows_b0 F k n (rX10_writeRows_go F k n k') c s l0A l1A l2I S Φ := by
        rw [rX10_writeRows_go, if_pos (rfl : (0 : Nat) = 0)] at h
        exact h
      unfold rX10_writeRows_b0 at h
      refine wk_iload_n C dX10_writeRows_2 rfl rfl ?_
      refine wk_aload_n C dX10_writeRows_3 rfl rfl ?_
      refine wk_get C (v := .int (gWords_size S l0A)) huX10_writeRows_10 hl0A.1 (fun cy => wAt_10 cy _ hl0A.2) rfl 10 (by decide) (List.mem_of_getElem? (i := 1) rfl) rfl rfl dX10_writeRows_4 ?_
      refine wk_icmp_gt C (tgt := 114) dX10_writeRows_7 (by decide) (fun c1 => ?_) (fun c1 => ?_)
      · rw [if_pos c1] at h
        exact E _ _ _ _ _ hc hs dX10_writeRows_114 ⟨(), rfl, h, hW, hE⟩
      · rw [if_neg c1] at h
        refine wk_aload_n C dX10_writeRows_10 rfl rfl ?_
        refine wk_callV C hR (As := []) (cnt := 0) (tX9_clear (l := l) hW hl1A h) rfl (wkGoodV (List.mem_of_getElem? (i := 2) rfl) (List.mem_of_getElem? (i := 3) rfl) (List.mem_of_getElem? (i := 4) rfl) (List.mem_of_getElem? (i := 5) rfl) hbX10_writeRows_X9_clear gdX9_clear) (Nat.le_trans (by decide : 0 + 1 ≤ 3) hd) (by decide) hl1A.1 (fun cy => wAt_9 cy _ hl1A.2) rfl ⟨by decide, by decide, by decide +kernel⟩ rfl rfl (Nat.le_of_ble_eq_true rfl) hc hs dX10_writeRows_11 (fun v' S3 hp => ?_)
        obtain ⟨v2, rfl, h, hWS3, hXS3⟩ := hp
        refine wk_aload_n C dX10_writeRows_14 rfl rfl ?_
        refine wk_iload_n C dX10_writeRows_15 rfl rfl ?_
        obtain ⟨k10, n11, hk10, hn11, h⟩ := h
        refine wk_callV C hR (As := [.int l2I]) (cnt := 1) (tX9_add (l := l) hWS3 (hXS3 _ _ hl1A) h) rfl (wkGoodV (List.mem_of_getElem? (i := 6) rfl) (List.mem_of_getElem? (i := 7) rfl) (List.mem_of_getElem? (i := 8) rfl) (List.mem_of_getElem? (i := 5) rfl) hbX10_writeRows_X9_add gdX9_add) (Nat.le_trans (by decide : 2 + 1 ≤ 3) hd) (by decide) (hXS3 _ _ hl1A).1 (fun cy => wAt_9 cy _ (hXS3 _ _ hl1A).2) rfl ⟨by decide, by decide, by decide +kernel⟩ rfl rfl (Nat.le_of_ble_eq_true rfl) hk10 hn11 dX10_writeRows_16 (fun v' S8 hp => ?_)
        obtain ⟨v7, rfl, h, hWS8, hXS8⟩ := hp
        refine wk_iconst C (v := 0) dX10_writeRows_19 (by decide) ?_
        refine wk_istore_n C (lv' := [some (.ref l0A), some (.ref l1A), some (.int l2I), some (.int (0 : Int32)), none]) dX10_writeRows_20 rfl (by decide) rfl ?_
        exact wk_forget (lv' := [some (.ref l0A), some (.ref l1A), some (.int l2I), some (.int (0 : Int32)), none]) (wkLs.le ⟨rfl, rfl, rfl, rfl, trivial⟩) (ih.2 _ _ hk10 hn11 _ _ _ _ _ hWS8 (wkExt.tr (wkExt.tr hE hXS3) hXS8) (hXS8 _ _ (hXS3 _ _ hl0A)) (hXS8 _ _ (hXS3 _ _ hl1A)) h)
    · intro c s hc hs l0A l1A l2I l3I S hW hE hl0A hl1A h
      have h : rX10_writeRows_b1 F k n (rX10_writeRows_go F k n k') c s l0A l1A l2I l3I S Φ := by
        rw [rX10_writeRows_go, if_neg (show ¬ (1 : Nat) = 0 by decide), if_pos (rfl : (1 : Nat) = 1)] at h
        exact h
      unfold rX10_writeRows_b1 at h
      refine wk_iload_n C dX10_writeRows_21 rfl rfl ?_
      refine wk_sipush C (v := 720) dX10_writeRows_22 (by decide) ?_
      refine wk_icmp_ge C (tgt := 91) dX10_writeRows_25 (by decide) (fun c12 => ?_) (fun c12 => ?_)
      · rw [if_pos c12] at h
        refine wk_aload_n C dX10_writeRows_91 rfl rfl ?_
        refine wk_iconst C (v := 1) dX10_writeRows_92 (by decide) ?_
        refine wk_aload_n C dX10_writeRows_93 rfl rfl ?_
        refine wk_get C huX10_writeRows_10 hl0A.1 (fun cy => wAt_10 cy _ hl0A.2) rfl 1 (by decide) (List.mem_of_getElem? (i := 9) rfl) rfl (congrArg some (congrArg va_rf (wf_Words_goal hW hl0A).1)) dX10_writeRows_94 ?_
        refine wk_iload_n C dX10_writeRows_97 rfl rfl ?_
        refine wk_callW C hR (As := [.ref (wkAd (gWords_goal S l0A)), .int l2I]) (cnt := 2) (tX10_codeOf (l := l) hW (wf_Words_goal hW hl0A).2 h) rfl (wkGoodW (List.mem_of_getElem? (i := 10) rfl) (List.mem_of_getElem? (i := 11) rfl) (List.mem_of_getElem? (i := 12) rfl) hbX10_writeRows_X10_codeOf gdX10_codeOf) (Nat.le_trans (by decide : 0 + 1 ≤ 3) hd) (by decide) ⟨by decide, by decide, by decide +kernel⟩ rfl rfl (Nat.le_of_ble_eq_true rfl) hc hs dX10_writeRows_98 (fun v' S14 hp => ?_)
        obtain ⟨v13, rfl, h, hWS14, hXS14⟩ := hp
        refine wk_callV C hR (As := [.int (1 : Int32), .int v13]) (cnt := 2) (tX9_holds (l := l) hWS14 (hXS14 _ _ hl1A) h) rfl (wkGoodV (List.mem_of_getElem? (i := 13) rfl) (List.mem_of_getElem? (i := 14) rfl) (List.mem_of_getElem? (i := 15) rfl) (List.mem_of_getElem? (i := 5) rfl) hbX10_writeRows_X9_holds gdX9_holds) (Nat.le_trans (by decide : 0 + 1 ≤ 3) hd) (by decide) (hXS14 _ _ hl1A).1 (fun cy => wAt_9 cy _ (hXS14 _ _ hl1A).2) rfl ⟨by decide, by decide, by decide +kernel⟩ rfl rfl (Nat.le_of_ble_eq_true rfl) hc hs dX10_writeRows_101 (fun v' S19 hp => ?_)
        obtain ⟨v18, rfl, h, hWS19, hXS19⟩ := hp
        refine wk_if_ne C (tgt := 108) dX10_writeRows_104 (by decide) (fun c23 => ?_) (fun c23 => ?_)
        · rw [if_neg c23] at h
          obtain ⟨x24, ex24, h⟩ := wkLt_some h
          refine wk_iinc C (lv' := [some (.ref l0A), some (.ref l1A), some (.int x24), some (.int l3I), none]) dX10_writeRows_108 rfl (by rw [ex24]; rfl) (by decide) rfl ?_
          refine wk_goto C (tgt := 2) dX10_writeRows_111 (by decide) ?_
          exact wk_forget (lv' := [some (.ref l0A), some (.ref l1A), some (.int x24), none, none]) (wkLs.le ⟨rfl, rfl, rfl, trivial⟩) (ih.1 _ _ hc hs _ _ _ _ hWS19 (wkExt.tr (wkExt.tr hE hXS14) hXS19) (hXS19 _ _ (hXS14 _ _ hl0A)) (hXS19 _ _ (hXS14 _ _ hl1A)) h)
        · rw [if_pos c23] at h
          exact E _ _ _ _ _ hc hs dX10_writeRows_107 ⟨(), rfl, h, hWS19, (wkExt.tr (wkExt.tr hE hXS14) hXS19)⟩
      · rw [if_neg c12] at h
        refine wk_aload_n C dX10_writeRows_28 rfl rfl ?_
        refine wk_get C huX10_writeRows_10 hl0A.1 (fun cy => wAt_10 cy _ hl0A.2) rfl 6 (by decide) (List.mem_of_getElem? (i := 16) rfl) rfl (congrArg some (congrArg va_rf (wf_Words_cameBy hW hl0A).1)) dX10_writeRows_29 ?_
        refine wk_iload_n C dX10_writeRows_32 rfl rfl ?_
        obtain ⟨i25, h⟩ := h
        refine wk_iald C (wf_Words_cameBy hW hl0A).2.1 (wf_Words_cameBy hW hl0A).2.2 i25 rfl dX10_writeRows_33 ?_
        refine wk_if_lt C (tgt := 85) dX10_writeRows_34 (by decide) (fun c26 => ?_) (fun c26 => ?_)
        · rw [if_pos c26] at h
          obtain ⟨x27, ex27, h⟩ := wkLt_some h
          refine wk_iinc C (lv' := [some (.ref l0A), some (.ref l1A), some (.int l2I), some (.int x27), none]) dX10_writeRows_85 rfl (by rw [ex27]; rfl) (by decide) rfl ?_
          refine wk_goto C (tgt := 21) dX10_writeRows_88 (by decide) ?_
          exact wk_forget (lv' := [some (.ref l0A), some (.ref l1A), some (.int l2I), some (.int x27), none]) (wkLs.le ⟨rfl, rfl, rfl, rfl, trivial⟩) (ih.2 _ _ hc hs _ _ _ _ _ hW hE hl0A hl1A h)
        · rw [if_neg c26] at h
          refine wk_aload_n C dX10_writeRows_37 rfl rfl ?_
          refine wk_iload_n C dX10_writeRows_38 rfl rfl ?_
          refine wk_aload_n C dX10_writeRows_39 rfl rfl ?_
          refine wk_get C huX10_writeRows_10 hl0A.1 (fun cy => wAt_10 cy _ hl0A.2) rfl 2 (by decide) (List.mem_of_getElem? (i := 17) rfl) rfl (congrArg some (congrArg va_rf (wf_Words_points hW hl0A).1)) dX10_writeRows_40 ?_
          refine wk_callV C hR (As := [.int l3I, .ref (wkAd (gWords_points S l0A))]) (cnt := 2) (tX10_writePoints (l := l) hW hl0A (wf_Words_points hW hl0A).2 h) rfl (wkGoodV (List.mem_of_getElem? (i := 18) rfl) (List.mem_of_getElem? (i := 19) rfl) (List.mem_of_getElem? (i := 20) rfl) (List.mem_of_getElem? (i := 12) rfl) hbX10_writeRows_X10_writePoints gdX10_writePoints) (Nat.le_trans (by decide : 2 + 1 ≤ 3) hd) (by decide) hl0A.1 (fun cy => wAt_10 cy _ hl0A.2) rfl ⟨by decide, by decide, by decide +kernel⟩ rfl rfl (Nat.le_of_ble_eq_true rfl) hc hs dX10_writeRows_43 (fun v' S29 hp => ?_)
          obtain ⟨v28, rfl, h, hWS29, hXS29⟩ := hp
          refine wk_aload_n C dX10_writeRows_46 rfl rfl ?_
          refine wk_get C huX10_writeRows_10 (hXS29 _ _ hl0A).1 (fun cy => wAt_10 cy _ (hXS29 _ _ hl0A).2) rfl 2 (by decide) (List.mem_of_getElem? (i := 17) rfl) rfl (congrArg some (congrArg va_rf (wf_Words_points hWS29 (hXS29 _ _ hl0A)).1)) dX10_writeRows_47 ?_
          refine wk_iload_n C dX10_writeRows_50 rfl rfl ?_
          refine wk_callW C hR (As := [.ref (wkAd (gWords_points S29 l0A)), .int l2I]) (cnt := 2) (tX10_codeOf (l := l) hWS29 (wf_Words_points hWS29 (hXS29 _ _ hl0A)).2 h) rfl (wkGoodW (List.mem_of_getElem? (i := 10) rfl) (List.mem_of_getElem? (i := 11) rfl) (List.mem_of_getElem? (i := 12) rfl) hbX10_writeRows_X10_codeOf gdX10_codeOf) (Nat.le_trans (by decide : 0 + 1 ≤ 3) hd) (by decide) ⟨by decide, by decide, by decide +kernel⟩ rfl rfl (Nat.le_of_ble_eq_true rfl) hc hs dX10_writeRows_51 (fun v' S34 hp => ?_)
          obtain ⟨v33, rfl, h, hWS34, hXS34⟩ := hp
          refine wk_istore C (lv' := [some (.ref l0A), some (.ref l1A), some (.int l2I), some (.int l3I), some (.int v33)]) dX10_writeRows_54 (by decide) rfl ?_
          refine wk_aload_n C dX10_writeRows_56 rfl rfl ?_
          refine wk_get C (v := .int (gRow_count S34 l1A)) huX10_writeRows_9 (hXS34 _ _ (hXS29 _ _ hl1A)).1 (fun cy => wAt_9 cy _ (hXS34 _ _ (hXS29 _ _ hl1A)).2) rfl 1 (by decide) (List.mem_of_getElem? (i := 21) rfl) rfl rfl dX10_writeRows_57 ?_
          refine wk_iconst C (v := 1) dX10_writeRows_60 (by decide) ?_
          refine wk_icmp_eq C (tgt := 79) dX10_writeRows_61 (by decide) (fun c38 => ?_) (fun c38 => ?_)
          · rw [if_pos c38] at h
            refine wk_aload_n C dX10_writeRows_79 rfl rfl ?_
            refine wk_iload C dX10_writeRows_80 rfl ?_
            obtain ⟨k42, n43, hk42, hn43, h⟩ := h
            refine wk_callV C hR (As := [.int v33]) (cnt := 1) (tX9_add (l := l) hWS34 (hXS34 _ _ (hXS29 _ _ hl1A)) h) rfl (wkGoodV (List.mem_of_getElem? (i := 6) rfl) (List.mem_of_getElem? (i := 7) rfl) (List.mem_of_getElem? (i := 8) rfl) (List.mem_of_getElem? (i := 5) rfl) hbX10_writeRows_X9_add gdX9_add) (Nat.le_trans (by decide : 2 + 1 ≤ 3) hd) (by decide) (hXS34 _ _ (hXS29 _ _ hl1A)).1 (fun cy => wAt_9 cy _ (hXS34 _ _ (hXS29 _ _ hl1A)).2) rfl ⟨by decide, by decide, by decide +kernel⟩ rfl rfl (Nat.le_of_ble_eq_true rfl) hk42 hn43 dX10_writeRows_82 (fun v' S40 hp => ?_)
            obtain ⟨v39, rfl, h, hWS40, hXS40⟩ := hp
            obtain ⟨x44, ex44, h⟩ := wkLt_some h
            refine wk_iinc C (lv' := [some (.ref l0A), some (.ref l1A), some (.int l2I), some (.int x44), some (.int v33)]) dX10_writeRows_85 rfl (by rw [ex44]; rfl) (by decide) rfl ?_
            refine wk_goto C (tgt := 21) dX10_writeRows_88 (by decide) ?_
            exact wk_forget (lv' := [some (.ref l0A), some (.ref l1A), some (.int l2I), some (.int x44), none]) (wkLs.le ⟨rfl, rfl, rfl, rfl, trivial⟩) (ih.2 _ _ hk42 hn43 _ _ _ _ _ hWS40 (wkExt.tr (wkExt.tr (wkExt.tr hE hXS29) hXS34) hXS40) (hXS40 _ _ (hXS34 _ _ (hXS29 _ _ hl0A))) (hXS40 _ _ (hXS34 _ _ (hXS29 _ _ hl1A))) h)
          · rw [if_neg c38] at h
            refine wk_aload_n C dX10_writeRows_64 rfl rfl ?_
            refine wk_aload_n C dX10_writeRows_65 rfl rfl ?_
            refine wk_get C (v := .int (gRow_count S34 l1A)) huX10_writeRows_9 (hXS34 _ _ (hXS29 _ _ hl1A)).1 (fun cy => wAt_9 cy _ (hXS34 _ _ (hXS29 _ _ hl1A)).2) rfl 1 (by decide) (List.mem_of_getElem? (i := 21) rfl) rfl rfl dX10_writeRows_66 ?_
            refine wk_iconst C (v := 1) dX10_writeRows_69 (by decide) ?_
            refine wk_isub C dX10_writeRows_70 rfl ?_
            refine wk_callV C hR (As := [.int ((gRow_count S34 l1A) - (1 : Int32))]) (cnt := 1) (tX9_at (l := l) hWS34 (hXS34 _ _ (hXS29 _ _ hl1A)) h) rfl (wkGoodV (List.mem_of_getElem? (i := 22) rfl) (List.mem_of_getElem? (i := 23) rfl) (List.mem_of_getElem? (i := 24) rfl) (List.mem_of_getElem? (i := 5) rfl) hbX10_writeRows_X9_at gdX9_at) (Nat.le_trans (by decide : 0 + 1 ≤ 3) hd) (by decide) (hXS34 _ _ (hXS29 _ _ hl1A)).1 (fun cy => wAt_9 cy _ (hXS34 _ _ (hXS29 _ _ hl1A)).2) rfl ⟨by decide, by decide, by decide +kernel⟩ rfl rfl (Nat.le_of_ble_eq_true rfl) hc hs dX10_writeRows_71 (fun v' S46 hp => ?_)
            obtain ⟨v45, rfl, h, hWS46, hXS46⟩ := hp
            refine wk_iload C dX10_writeRows_74 rfl ?_
            refine wk_icmp_eq C (tgt := 85) dX10_writeRows_76 (by decide) (fun c50 => ?_) (fun c50 => ?_)
            · rw [if_pos c50] at h
              obtain ⟨x51, ex51, h⟩ := wkLt_some h
              refine wk_iinc C (lv' := [some (.ref l0A), some (.ref l1A), some (.int l2I), some (.int x51), some (.int v33)]) dX10_writeRows_85 rfl (by rw [ex51]; rfl) (by decide) rfl ?_
              refine wk_goto C (tgt := 21) dX10_writeRows_88 (by decide) ?_
              exact wk_forget (lv' := [some (.ref l0A), some (.ref l1A), some (.int l2I), some (.int x51), none]) (wkLs.le ⟨rfl, rfl, rfl, rfl, trivial⟩) (ih.2 _ _ hc hs _ _ _ _ _ hWS46 (wkExt.tr (wkExt.tr (wkExt.tr hE hXS29) hXS34) hXS46) (hXS46 _ _ (hXS34 _ _ (hXS29 _ _ hl0A))) (hXS46 _ _ (hXS34 _ _ (hXS29 _ _ hl1A))) h)
            · rw [if_neg c50] at h
              refine wk_aload_n C dX10_writeRows_79 rfl rfl ?_
              refine wk_iload C dX10_writeRows_80 rfl ?_
              obtain ⟨k55, n56, hk55, hn56, h⟩ := h
              refine wk_callV C hR (As := [.int v33]) (cnt := 1) (tX9_add (l := l) hWS46 (hXS46 _ _ (hXS34 _ _ (hXS29 _ _ hl1A))) h) rfl (wkGoodV (List.mem_of_getElem? (i := 6) rfl) (List.mem_of_getElem? (i := 7) rfl) (List.mem_of_getElem? (i := 8) rfl) (List.mem_of_getElem? (i := 5) rfl) hbX10_writeRows_X9_add gdX9_add) (Nat.le_trans (by decide : 2 + 1 ≤ 3) hd) (by decide) (hXS46 _ _ (hXS34 _ _ (hXS29 _ _ hl1A))).1 (fun cy => wAt_9 cy _ (hXS46 _ _ (hXS34 _ _ (hXS29 _ _ hl1A))).2) rfl ⟨by decide, by decide, by decide +kernel⟩ rfl rfl (Nat.le_of_ble_eq_true rfl) hk55 hn56 dX10_writeRows_82 (fun v' S53 hp => ?_)
              obtain ⟨v52, rfl, h, hWS53, hXS53⟩ := hp
              obtain ⟨x57, ex57, h⟩ := wkLt_some h
              refine wk_iinc C (lv' := [some (.ref l0A), some (.ref l1A), some (.int l2I), some (.int x57), some (.int v33)]) dX10_writeRows_85 rfl (by rw [ex57]; rfl) (by decide) rfl ?_
              refine wk_goto C (tgt := 21) dX10_writeRows_88 (by decide) ?_
              exact wk_forget (lv' := [some (.ref l0A), some (.ref l1A), some (.int l2I), some (.int x57), none]) (wkLs.le ⟨rfl, rfl, rfl, rfl, trivial⟩) (ih.2 _ _ hk55 hn56 _ _ _ _ _ hWS53 (wkExt.tr (wkExt.tr (wkExt.tr (wkExt.tr hE hXS29) hXS34) hXS46) hXS53) (hXS53 _ _ (hXS46 _ _ (hXS34 _ _ (hXS29 _ _ hl0A)))) (hXS53 _ _ (hXS46 _ _ (hXS34 _ _ (hXS29 _ _ hl1A)))) h)
set_option maxHeartbeats 4000000 in
set_option maxRecDepth 100000 in
theorem tX10_writeRows {l : Launch} {g : wkG} {F : Nat} {k n : Nat}  {S : wPS} {l0A : Nat} {l1A : Nat} {Φ : (Unit → wPS → Prop)} (hW : wkWF S) (hl0A : wkIs S l0A 10) (hl1A : wkIs S l1A 9) (h : rX10_writeRows F k n l0A l1A S Φ) : wkMet l g yX10_writeRows wvX10_writeRows 3 k n [.ref l0A, .ref l1A] S (fun v' S'' => ∃ v : Unit, v' = none ∧ Φ v S'' ∧ wkWF S'' ∧ wkExt S S'') := by
  refine wkMet_of (ret := none) (by decide) rfl (Nat.le_of_ble_eq_true rfl) (fun X hg C hR E => ?_)
  subst hg
  have hE : wkExt S S := wkExt.rf
  have hd : 3 ≤ 3 := Nat.le_refl _
  show wkGo l X 5 0 0 0 S [some (.ref l0A), some (.ref l1A), none, none, none] []
  have ih := tX10_writeRows_go (F := F) C hR hd E F
  have h : rX10_writeRows_s F k n (rX10_writeRows_go F k n F) l0A l1A S Φ := h
  unfold rX10_writeRows_s at h
  refine wk_iconst C (v := 1) dX10_writeRows_0 (by decide) ?_
  refine wk_istore_n C (lv' := [some (.ref l0A), some (.ref l1A), some (.int (1 : Int32)), none, none]) dX10_writeRows_1 rfl (by decide) rfl ?_
  exact wk_forget (lv' := [some (.ref l0A), some (.ref l1A), some (.int (1 : Int32)), none, none]) (wkLs.le ⟨rfl, rfl, rfl, trivial⟩) (ih.1 _ _ (Nat.zero_le _) (Nat.zero_le _) _ _ _ _ hW hE hl0A hl1A h)
def wvX10_areRowsOf : List Cond := .code yX10_areRowsOf cX10_areRowsOf 7 (some .boolean) :: (([.fieldLink RX10 128 "Witnessworks$Row" "count" "I", .methodLink RX10 131 yX9_at, .instanceMethod yX9_at, .selects RX9 yX9_at yX9_at, .initialized RX9, .methodLink RX10 158 yX10_readCode, .instanceMethod yX10_readCode, .selects RX10 yX10_readCode yX10_readCode, .initialized RX10, .methodLink RX10 137 yJ6_bitCount_0f7a4, .static yJ6_bitCount_0f7a4, .initialized RJ6, .fieldLink RX10 71 "Witnessworks$Words" "size" "I", .fieldLink RX10 20 "Witnessworks$Words" "points" "[I"] : List Cond) ++ ((wsX90 ++ (wsX100)) ++ (wvX9_at ++ (wvX10_readCode ++ (wvJ6_bitCount_0f7a4)))))
theorem huX10_areRowsOf_9 : ∀ w ∈ u_ws RX9 TX9 2, w ∈ wvX10_areRowsOf := fun w h => List.mem_cons_of_mem _ (List.mem_append_right _ (List.mem_append_left _ (List.mem_append_left _ h)))
theorem huX10_areRowsOf_10 : ∀ w ∈ u_ws RX10 TX10 12, w ∈ wvX10_areRowsOf := fun w h => List.mem_cons_of_mem _ (List.mem_append_right _ (List.mem_append_left _ (List.mem_append_right _ h)))
theorem hbX10_areRowsOf_X9_at : ∀ w ∈ wvX9_at, w ∈ wvX10_areRowsOf := fun w h => List.mem_cons_of_mem _ (List.mem_append_right _ (List.mem_append_right _ (List.mem_append_left _ h)))
theorem hbX10_areRowsOf_X10_readCode : ∀ w ∈ wvX10_readCode, w ∈ wvX10_areRowsOf := fun w h => List.mem_cons_of_mem _ (List.mem_append_right _ (List.mem_append_right _ (List.mem_append_right _ (List.mem_append_left _ h))))
theorem hbX10_areRowsOf_J6_bitCount_0f7a4 : ∀ w ∈ wvJ6_bitCount_0f7a4, w ∈ wvX10_areRowsOf := fun w h => List.mem_cons_of_mem _ (List.mem_append_right _ (List.mem_append_right _ (List.mem_append_right _ (List.mem_append_right _ h))))
theorem gdX10_areRowsOf : ∀ w ∈ wvX10_areRowsOf, wkGd w := wkGdC rfl (wkGdA (wkGdL (by decide +kernel)) (wkGdA (wkGdA gdX9 gdX10) (wkGdA gdX9_at (wkGdA gdX10_readCode gdJ6_bitCount_0f7a4))))
def rX10_areRowsOf_b0 (F : Nat) (rec : Nat → Nat → Nat → Int32 → Int32 → Int32 → Int32 → Int32 → wPS → (Int32 → wPS → Prop) → Prop) (l0A : Nat) (l1A : Nat) (l2I : Int32) (l3I : Int32) (S : wPS) (Φ : (Int32 → wPS → Prop)) : Prop :=
  if (gRow_count S l1A) ≤ l3I then (Φ (1 : Int32) S) else (rX9_at F l1A l3I S fun v2 S3 => rX10_readCode F l0A v2 l2I S3 fun v7 S8 => rec 1 l0A l1A l2I l3I v7 (0 : Int32) (0 : Int32) S8 Φ)
def rX10_areRowsOf_b1 (F : Nat) (rec : Nat → Nat → Nat → Int32 → Int32 → Int32 → Int32 → Int32 → wPS → (Int32 → wPS → Prop) → Prop) (l0A : Nat) (l1A : Nat) (l2I : Int32) (l3I : Int32) (l4I : Int32) (l5I : Int32) (l6I : Int32) (S : wPS) (Φ : (Int32 → wPS → Prop)) : Prop :=
  if l2I ≤ l6I then (if l4I = 0 then (rJ6_bitCount_0f7a4 F l5I S fun v14 S15 => if v14 = l2I then (if (l5I >>> ((gWords_size S15 l0A) &&& 31)) = 0 then (wkLt (l3I + (1 : Int32)) fun x21 => rec 0 l0A l1A l2I x21 0 0 0 S15 Φ) else (Φ (0 : Int32) S15)) else (Φ (0 : Int32) S15)) else (Φ (0 : Int32) S)) else (¬ (l6I < 0 ∨ S.len (wkAd (gWords_points S l0A)) ≤ (l6I).toNatClampNeg) ∧ wkLt ((l5I ||| ((1 : Int32) <<< ((S.rI (wkAd (gWords_points S l0A)) (l6I).toNatClampNeg) &&& 31)))) fun x23 => wkLt (l6I + (1 : Int32)) fun x24 => rec 1 l0A l1A l2I l3I l4I x23 x24 S Φ)
def rX10_areRowsOf_go (F : Nat) : Nat → Nat → Nat → Nat → Int32 → Int32 → Int32 → Int32 → Int32 → wPS → (Int32 → wPS → Prop) → Prop
  | 0, _, _, _, _, _, _, _, _, _, _ => False
  | k' + 1, lab, l0A, l1A, l2I, l3I, l4I, l5I, l6I, S, Φ => if lab = 0 then rX10_areRowsOf_b0 F (rX10_areRowsOf_go F k') l0A l1A l2I l3I S Φ else if lab = 1 then rX10_areRowsOf_b1 F (rX10_areRowsOf_go F k') l0A l1A l2I l3I l4I l5I l6I S Φ else False
def rX10_areRowsOf_s (F : Nat) (rec : Nat → Nat → Nat → Int32 → Int32 → Int32 → Int32 → Int32 → wPS → (Int32 → wPS → Prop) → Prop) (l0A : Nat) (l1A : Nat) (l2I : Int32) (S : wPS) (Φ : (Int32 → wPS → Prop)) : Prop :=
  rec 0 l0A l1A l2I (1 : Int32) 0 0 0 S Φ
def rX10_areRowsOf (F : Nat) (l0A : Nat) (l1A : Nat) (l2I : Int32) (S : wPS) (Φ : (Int32 → wPS → Prop)) : Prop := rX10_areRowsOf_s F (rX10_areRowsOf_go F F) l0A l1A l2I S Φ
set_option maxHeartbeats 4000000 in
set_option maxRecDepth 100000 in
theorem tX10_areRowsOf_go {l : Launch} {X : wkX} {d F : Nat} {S0 : wPS} {Φ : (Int32 → wPS → Prop)} (C : wkC X cX10_areRowsOf RX10 7 wvX10_areRowsOf) (hR : wkRm X d 0 0) (hd : 2 ≤ d) (E : wkEnd l X cX10_areRowsOf 7 (some .boolean) 0 0 (fun v' S'' => ∃ v : Int32, v' = some (.int v) ∧ Φ v S'' ∧ wkWF S'' ∧ wkExt S0 S'')) : ∀ k' : Nat, (∀ (l0A : Nat) (l1A : Nat) (l2I : Int32) (l3I : Int32) (S : wPS), wkWF S → wkExt S0 S → wkIs S l0A 10 → wkIs S l1A 9 → rX10_areRowsOf_go F k' 0 l0A l1A l2I l3I 0 0 0 S Φ → wkGo l X 7 0 0 2 S [some (.ref l0A), some (.ref l1A), some (.int l2I), some (.int l3I), none, none, none] []) ∧ (∀ (l0A : Nat) (l1A : Nat) (l2I : Int32) (l3I : Int32) (l4I : Int32) (l5I : Int32) (l6I : Int32) (S : wPS), wkWF S → wkExt S0 S → wkIs S l0A 10 → wkIs S l1A 9 → rX10_areRowsOf_go F k' 1 l0A l1A l2I l3I l4I l5I l6I S Φ → wkGo l X 7 0 0 28 S [some (.ref l0A), some (.ref l1A), some (.int l2I), some (.int l3I), some (.int l4I), some (.int l5I), some (.int l6I)] []) := by
  intro k'
  induction k' with
  | zero => exact ⟨fun l0A l1A l2I l3I S hW hE hl0A hl1A h => h.elim, fun l0A l1A l2I l3I l4I l5I l6I S hW hE hl0A hl1A h => h.elim⟩
  | succ k' ih =>
    refine ⟨?_, ?_⟩
    · intro l0A l1A l2I l3I S hW hE hl0A hl1A h
      have h : rX10_areRowsOf_b0 F (rX10_areRowsOf_go F k') l0A l1A l2I l3I S Φ := by
        rw [rX10_areRowsOf_go, if_pos (rfl : (0 : Nat) = 0)] at h
        exact h
      unfold rX10_areRowsOf_b0 at h
      refine wk_iload_n C dX10_areRowsOf_2 rfl rfl ?_
      refine wk_aload_n C dX10_areRowsOf_3 rfl rfl ?_
      refine wk_get C (v := .int (gRow_count S l1A)) huX10_areRowsOf_9 hl1A.1 (fun cy => wAt_9 cy _ hl1A.2) rfl 1 (by decide) (List.mem_of_getElem? (i := 1) rfl) rfl rfl dX10_areRowsOf_4 ?_
      refine wk_icmp_ge C (tgt := 86) dX10_areRowsOf_7 (by decide) (fun c1 => ?_) (fun c1 => ?_)
      · rw [if_pos c1] at h
        refine wk_iconst C (v := 1) dX10_areRowsOf_86 (by decide) ?_
        exact E _ _ _ _ _ _ (Nat.le_refl 0) (Nat.le_refl 0) dX10_areRowsOf_87 rfl ⟨(1 : Int32), rfl, h, hW, hE⟩
      · rw [if_neg c1] at h
        refine wk_aload_n C dX10_areRowsOf_10 rfl rfl ?_
        refine wk_aload_n C dX10_areRowsOf_11 rfl rfl ?_
        refine wk_iload_n C dX10_areRowsOf_12 rfl rfl ?_
        refine wk_callV C hR (As := [.int l3I]) (cnt := 1) (tX9_at (l := l) hW hl1A h) rfl (wkGoodV (List.mem_of_getElem? (i := 2) rfl) (List.mem_of_getElem? (i := 3) rfl) (List.mem_of_getElem? (i := 4) rfl) (List.mem_of_getElem? (i := 5) rfl) hbX10_areRowsOf_X9_at gdX9_at) (Nat.le_trans (by decide : 0 + 1 ≤ 2) hd) (by decide) hl1A.1 (fun cy => wAt_9 cy _ hl1A.2) rfl ⟨by decide, by decide, by decide +kernel⟩ rfl rfl (Nat.le_of_ble_eq_true rfl) (Nat.le_refl 0) (Nat.le_refl 0) dX10_areRowsOf_13 (fun v' S3 hp => ?_)
        obtain ⟨v2, rfl, h, hWS3, hXS3⟩ := hp
        refine wk_iload_n C dX10_areRowsOf_16 rfl rfl ?_
        refine wk_callV C hR (As := [.int v2, .int l2I]) (cnt := 2) (tX10_readCode (l := l) hWS3 (hXS3 _ _ hl0A) h) rfl (wkGoodV (List.mem_of_getElem? (i := 6) rfl) (List.mem_of_getElem? (i := 7) rfl) (List.mem_of_getElem? (i := 8) rfl) (List.mem_of_getElem? (i := 9) rfl) hbX10_areRowsOf_X10_readCode gdX10_readCode) (Nat.le_trans (by decide : 1 + 1 ≤ 2) hd) (by decide) (hXS3 _ _ hl0A).1 (fun cy => wAt_10 cy _ (hXS3 _ _ hl0A).2) rfl ⟨by decide, by decide, by decide +kernel⟩ rfl rfl (Nat.le_of_ble_eq_true rfl) (Nat.le_refl 0) (Nat.le_refl 0) dX10_areRowsOf_17 (fun v' S8 hp => ?_)
        obtain ⟨v7, rfl, h, hWS8, hXS8⟩ := hp
        refine wk_istore C (lv' := [some (.ref l0A), some (.ref l1A), some (.int l2I), some (.int l3I), some (.int v7), none, none]) dX10_areRowsOf_20 (by decide) rfl ?_
        refine wk_iconst C (v := 0) dX10_areRowsOf_22 (by decide) ?_
        refine wk_istore C (lv' := [some (.ref l0A), some (.ref l1A), some (.int l2I), some (.int l3I), some (.int v7), some (.int (0 : Int32)), none]) dX10_areRowsOf_23 (by decide) rfl ?_
        refine wk_iconst C (v := 0) dX10_areRowsOf_25 (by decide) ?_
        refine wk_istore C (lv' := [some (.ref l0A), some (.ref l1A), some (.int l2I), some (.int l3I), some (.int v7), some (.int (0 : Int32)), some (.int (0 : Int32))]) dX10_areRowsOf_26 (by decide) rfl ?_
        exact wk_forget (lv' := [some (.ref l0A), some (.ref l1A), some (.int l2I), some (.int l3I), some (.int v7), some (.int (0 : Int32)), some (.int (0 : Int32))]) (wkLs.le ⟨rfl, rfl, rfl, rfl, rfl, rfl, rfl, trivial⟩) (ih.2 _ _ _ _ _ _ _ _ hWS8 (wkExt.tr (wkExt.tr hE hXS3) hXS8) (hXS8 _ _ (hXS3 _ _ hl0A)) (hXS8 _ _ (hXS3 _ _ hl1A)) h)
    · intro l0A l1A l2I l3I l4I l5I l6I S hW hE hl0A hl1A h
      have h : rX10_areRowsOf_b1 F (rX10_areRowsOf_go F k') l0A l1A l2I l3I l4I l5I l6I S Φ := by
        rw [rX10_areRowsOf_go, if_neg (show ¬ (1 : Nat) = 0 by decide), if_pos (rfl : (1 : Nat) = 1)] at h
        exact h
      unfold rX10_areRowsOf_b1 at h
      refine wk_iload C dX10_areRowsOf_28 rfl ?_
      refine wk_iload_n C dX10_areRowsOf_30 rfl rfl ?_
      refine wk_icmp_ge C (tgt := 54) dX10_areRowsOf_31 (by decide) (fun c12 => ?_) (fun c12 => ?_)
      · rw [if_pos c12] at h
        refine wk_iload C dX10_areRowsOf_54 rfl ?_
        refine wk_if_ne C (tgt := 78) dX10_areRowsOf_56 (by decide) (fun c13 => ?_) (fun c13 => ?_)
        · rw [if_neg c13] at h
          refine wk_iconst C (v := 0) dX10_areRowsOf_78 (by decide) ?_
          exact E _ _ _ _ _ _ (Nat.le_refl 0) (Nat.le_refl 0) dX10_areRowsOf_79 rfl ⟨(0 : Int32), rfl, h, hW, hE⟩
        · rw [if_pos c13] at h
          refine wk_iload C dX10_areRowsOf_59 rfl ?_
          refine wk_callW C hR (As := [.int l5I]) (cnt := 1) (tJ6_bitCount_0f7a4 (l := l) hW  h) rfl (wkGoodW (List.mem_of_getElem? (i := 10) rfl) (List.mem_of_getElem? (i := 11) rfl) (List.mem_of_getElem? (i := 12) rfl) hbX10_areRowsOf_J6_bitCount_0f7a4 gdJ6_bitCount_0f7a4) (Nat.le_trans (by decide : 0 + 1 ≤ 2) hd) (by decide) ⟨by decide, by decide, by decide +kernel⟩ rfl rfl (Nat.le_of_ble_eq_true rfl) (Nat.le_refl 0) (Nat.le_refl 0) dX10_areRowsOf_61 (fun v' S15 hp => ?_)
          obtain ⟨v14, rfl, h, hWS15, hXS15⟩ := hp
          refine wk_iload_n C dX10_areRowsOf_64 rfl rfl ?_
          refine wk_icmp_ne C (tgt := 78) dX10_areRowsOf_65 (by decide) (fun c19 => ?_) (fun c19 => ?_)
          · rw [if_neg c19] at h
            refine wk_iconst C (v := 0) dX10_areRowsOf_78 (by decide) ?_
            exact E _ _ _ _ _ _ (Nat.le_refl 0) (Nat.le_refl 0) dX10_areRowsOf_79 rfl ⟨(0 : Int32), rfl, h, hWS15, (wkExt.tr hE hXS15)⟩
          · rw [if_pos c19] at h
            refine wk_iload C dX10_areRowsOf_68 rfl ?_
            refine wk_aload_n C dX10_areRowsOf_70 rfl rfl ?_
            refine wk_get C (v := .int (gWords_size S15 l0A)) huX10_areRowsOf_10 (hXS15 _ _ hl0A).1 (fun cy => wAt_10 cy _ (hXS15 _ _ hl0A).2) rfl 10 (by decide) (List.mem_of_getElem? (i := 13) rfl) rfl rfl dX10_areRowsOf_71 ?_
            refine wk_ishr C dX10_areRowsOf_74 rfl ?_
            refine wk_if_eq C (tgt := 80) dX10_areRowsOf_75 (by decide) (fun c20 => ?_) (fun c20 => ?_)
            · rw [if_pos c20] at h
              obtain ⟨x21, ex21, h⟩ := wkLt_some h
              refine wk_iinc C (lv' := [some (.ref l0A), some (.ref l1A), some (.int l2I), some (.int x21), some (.int l4I), some (.int l5I), some (.int l6I)]) dX10_areRowsOf_80 rfl (by rw [ex21]; rfl) (by decide) rfl ?_
              refine wk_goto C (tgt := 2) dX10_areRowsOf_83 (by decide) ?_
              exact wk_forget (lv' := [some (.ref l0A), some (.ref l1A), some (.int l2I), some (.int x21), none, none, none]) (wkLs.le ⟨rfl, rfl, rfl, rfl, trivial⟩) (ih.1 _ _ _ _ _ hWS15 (wkExt.tr hE hXS15) (hXS15 _ _ hl0A) (hXS15 _ _ hl1A) h)
            · rw [if_neg c20] at h
              refine wk_iconst C (v := 0) dX10_areRowsOf_78 (by decide) ?_
              exact E _ _ _ _ _ _ (Nat.le_refl 0) (Nat.le_refl 0) dX10_areRowsOf_79 rfl ⟨(0 : Int32), rfl, h, hWS15, (wkExt.tr hE hXS15)⟩
      · rw [if_neg c12] at h
        refine wk_iload C dX10_areRowsOf_34 rfl ?_
        refine wk_iconst C (v := 1) dX10_areRowsOf_36 (by decide) ?_
        refine wk_aload_n C dX10_areRowsOf_37 rfl rfl ?_
        refine wk_get C huX10_areRowsOf_10 hl0A.1 (fun cy => wAt_10 cy _ hl0A.2) rfl 2 (by decide) (List.mem_of_getElem? (i := 14) rfl) rfl (congrArg some (congrArg va_rf (wf_Words_points hW hl0A).1)) dX10_areRowsOf_38 ?_
        refine wk_iload C dX10_areRowsOf_41 rfl ?_
        obtain ⟨i22, h⟩ := h
        refine wk_iald C (wf_Words_points hW hl0A).2.1 (wf_Words_points hW hl0A).2.2 i22 rfl dX10_areRowsOf_43 ?_
        refine wk_ishl C dX10_areRowsOf_44 rfl ?_
        refine wk_ior C dX10_areRowsOf_45 rfl ?_
        obtain ⟨x23, ex23, h⟩ := wkLt_some h
        refine wk_topi ex23 ?_
        refine wk_istore C (lv' := [some (.ref l0A), some (.ref l1A), some (.int l2I), some (.int l3I), some (.int l4I), some (.int x23), some (.int l6I)]) dX10_areRowsOf_46 (by decide) rfl ?_
        obtain ⟨x24, ex24, h⟩ := wkLt_some h
        refine wk_iinc C (lv' := [some (.ref l0A), some (.ref l1A), some (.int l2I), some (.int l3I), some (.int l4I), some (.int x23), some (.int x24)]) dX10_areRowsOf_48 rfl (by rw [ex24]; rfl) (by decide) rfl ?_
        refine wk_goto C (tgt := 28) dX10_areRowsOf_51 (by decide) ?_
        exact wk_forget (lv' := [some (.ref l0A), some (.ref l1A), some (.int l2I), some (.int l3I), some (.int l4I), some (.int x23), some (.int x24)]) (wkLs.le ⟨rfl, rfl, rfl, rfl, rfl, rfl, rfl, trivial⟩) (ih.2 _ _ _ _ _ _ _ _ hW hE hl0A hl1A h)
set_option maxHeartbeats 4000000 in
set_option maxRecDepth 100000 in
theorem tX10_areRowsOf {l : Launch} {g : wkG} {F : Nat}  {S : wPS} {l0A : Nat} {l1A : Nat} {l2I : Int32} {Φ : (Int32 → wPS → Prop)} (hW : wkWF S) (hl0A : wkIs S l0A 10) (hl1A : wkIs S l1A 9) (h : rX10_areRowsOf F l0A l1A l2I S Φ) : wkMet l g yX10_areRowsOf wvX10_areRowsOf 2 0 0 [.ref l0A, .ref l1A, .int l2I] S (fun v' S'' => ∃ v : Int32, v' = some (.int v) ∧ Φ v S'' ∧ wkWF S'' ∧ wkExt S S'') := by
  refine wkMet_of (ret := (some .boolean)) (by decide) rfl (Nat.le_of_ble_eq_true rfl) (fun X hg C hR E => ?_)
  subst hg
  have hE : wkExt S S := wkExt.rf
  have hd : 2 ≤ 2 := Nat.le_refl _
  show wkGo l X 7 0 0 0 S [some (.ref l0A), some (.ref l1A), some (.int l2I), none, none, none, none] []
  have ih := tX10_areRowsOf_go (F := F) C hR hd E F
  have h : rX10_areRowsOf_s F (rX10_areRowsOf_go F F) l0A l1A l2I S Φ := h
  unfold rX10_areRowsOf_s at h
  refine wk_iconst C (v := 1) dX10_areRowsOf_0 (by decide) ?_
  refine wk_istore_n C (lv' := [some (.ref l0A), some (.ref l1A), some (.int l2I), some (.int (1 : Int32)), none, none, none]) dX10_areRowsOf_1 rfl (by decide) rfl ?_
  exact wk_forget (lv' := [some (.ref l0A), some (.ref l1A), some (.int l2I), some (.int (1 : Int32)), none, none, none]) (wkLs.le ⟨rfl, rfl, rfl, rfl, trivial⟩) (ih.1 _ _ _ _ _ hW hE hl0A hl1A h)
