def wvX6_solveMachines : List Cond := .code yX6_solveMachines cX6_solveMachines 6 none :: (([.fieldLink RX6 43 "Witnessworks$Machines" "size" "I", .methodLink RX6 51 yX6_lettersAt, .instanceMethod yX6_lettersAt, .selects RX6 yX6_lettersAt yX6_lettersAt, .initialized RX6, .methodLink RX6 55 yX3_tell, .instanceMethod yX3_tell, .selects RX3 yX3_tell yX3_tell, .initialized RX3, .fieldLink RX6 59 "Witnessworks$Entry" "row" "LWitnessworks$Row;", .methodLink RX6 69 yX6_writeLetters, .instanceMethod yX6_writeLetters, .selects RX6 yX6_writeLetters yX6_writeLetters, .methodLink RX6 47 yX6_lowestLike, .instanceMethod yX6_lowestLike, .selects RX6 yX6_lowestLike yX6_lowestLike, .methodLink RX6 63 yX9_add, .instanceMethod yX9_add, .selects RX9 yX9_add yX9_add, .initialized RX9, .methodLink RX6 33 yX6_findLetters, .instanceMethod yX6_findLetters, .selects RX6 yX6_findLetters yX6_findLetters, .methodLink RX6 37 yX3_nodeAsked, .instanceMethod yX3_nodeAsked, .selects RX3 yX3_nodeAsked yX3_nodeAsked] : List Cond) ++ ((wsX60 ++ (wsX30)) ++ (wvX6_lettersAt ++ (wvX3_tell ++ (wvX6_writeLetters ++ (wvX6_lowestLike ++ (wvX9_add ++ (wvX6_findLetters ++ (wvX3_nodeAsked)))))))))
theorem huX6_solveMachines_6 : ∀ w ∈ u_ws RX6 TX6 8, w ∈ wvX6_solveMachines := fun w h => List.mem_cons_of_mem _ (List.mem_append_right _ (List.mem_append_left _ (List.mem_append_left _ h)))
theorem huX6_solveMachines_3 : ∀ w ∈ u_ws RX3 TX3 17, w ∈ wvX6_solveMachines := fun w h => List.mem_cons_of_mem _ (List.mem_append_right _ (List.mem_append_left _ (List.mem_append_right _ h)))
theorem hbX6_solveMachines_X6_lettersAt : ∀ w ∈ wvX6_lettersAt, w ∈ wvX6_solveMachines := fun w h => List.mem_cons_of_mem _ (List.mem_append_right _ (List.mem_append_right _ (List.mem_append_left _ h)))
theorem hbX6_solveMachines_X3_tell : ∀ w ∈ wvX3_tell, w ∈ wvX6_solveMachines := fun w h => List.mem_cons_of_mem _ (List.mem_append_right _ (List.mem_append_right _ (List.mem_append_right _ (List.mem_append_left _ h))))
theorem hbX6_solveMachines_X6_writeLetters : ∀ w ∈ wvX6_writeLetters, w ∈ wvX6_solveMachines := fun w h => List.mem_cons_of_mem _ (List.mem_append_right _ (List.mem_append_right _ (List.mem_append_right _ (List.mem_append_right _ (List.mem_append_left _ h)))))
theorem hbX6_solveMachines_X6_lowestLike : ∀ w ∈ wvX6_lowestLike, w ∈ wvX6_solveMachines := fun w h => List.mem_cons_of_mem _ (List.mem_append_right _ (List.mem_append_right _ (List.mem_append_right _ (List.mem_append_right _ (List.mem_append_right _ (List.mem_append_left _ h))))))
theorem hbX6_solveMachines_X9_add : ∀ w ∈ wvX9_add, w ∈ wvX6_solveMachines := fun w h => List.mem_cons_of_mem _ (List.mem_append_right _ (List.mem_append_right _ (List.mem_append_right _ (List.mem_append_right _ (List.mem_append_right _ (List.mem_append_right _ (List.mem_append_left _ h)))))))
theorem hbX6_solveMachines_X6_findLetters : ∀ w ∈ wvX6_findLetters, w ∈ wvX6_solveMachines := fun w h => List.mem_cons_of_mem _ (List.mem_append_right _ (List.mem_append_right _ (List.mem_append_right _ (List.mem_append_right _ (List.mem_append_right _ (List.mem_append_right _ (List.mem_append_right _ (List.mem_append_left _ h))))))))
theorem hbX6_solveMachines_X3_nodeAsked : ∀ w ∈ wvX3_nodeAsked, w ∈ wvX6_solveMachines := fun w h => List.mem_cons_of_mem _ (List.mem_append_right _ (List.mem_append_right _ (List.mem_append_right _ (List.mem_append_right _ (List.mem_append_right _ (List.mem_append_right _ (List.mem_append_right _ (List.mem_append_right _ h))))))))
theorem gdX6_solveMachines : ∀ w ∈ wvX6_solveMachines, wkGd w := wkGdC rfl (wkGdA (wkGdL (by decide +kernel)) (wkGdA (wkGdA gdX6 gdX3) (wkGdA gdX6_lettersAt (wkGdA gdX3_tell (wkGdA gdX6_writeLetters (wkGdA gdX6_lowestLike (wkGdA gdX9_add (wkGdA gdX6_findLetters gdX3_nodeAsked))))))))
def rX6_solveMachines_b0 (F : Nat) (k n : Nat) (rec : Nat → Nat → Nat → Nat → Nat → Int32 → Int32 → Int32 → Int32 → wPS → (Unit → wPS → Prop) → Prop) (c s : Nat) (l0A : Nat) (l1A : Nat) (l2I : Int32) (l3I : Int32) (l4I : Int32) (S : wPS) (Φ : (Unit → wPS → Prop)) : Prop :=
  if (gMachines_size S l0A) ≤ l4I then (rX6_lettersAt F l0A (0 : Int32) l2I S fun v2 S3 => if 0 ≤ v2 then (rX3_tell F l1A (0 : Int32) l3I S3 fun v8 S9 => ∃ k16 n17 : Nat, c + k16 ≤ k ∧ s + n17 ≤ n ∧ rX6_writeLetters F k16 n17 l0A l2I (wkAd (gEntry_row S9 l1A)) S9 fun v13 S14 => Φ () S14) else (rX3_tell F l1A (1 : Int32) l3I S3 fun v18 S19 => rec 1 c s l0A l1A 0 0 0 (0 : Int32) S19 Φ)) else (rX6_lowestLike F l0A l4I S fun v23 S24 => if v23 = l4I then (wkLt (l3I + (1 : Int32)) fun x30 => wkLt (l4I + (1 : Int32)) fun x31 => rec 0 c s l0A l1A l2I x30 x31 0 S24 Φ) else (wkLt (l4I + (1 : Int32)) fun x29 => rec 0 c s l0A l1A l2I l3I x29 0 S24 Φ))
def rX6_solveMachines_b1 (F : Nat) (k n : Nat) (rec : Nat → Nat → Nat → Nat → Nat → Int32 → Int32 → Int32 → Int32 → wPS → (Unit → wPS → Prop) → Prop) (c s : Nat) (l0A : Nat) (l1A : Nat) (l5I : Int32) (S : wPS) (Φ : (Unit → wPS → Prop)) : Prop :=
  if (gMachines_size S l0A) ≤ l5I then (Φ () S) else (rX6_lowestLike F l0A l5I S fun v33 S34 => ∃ k41 n42 : Nat, c + k41 ≤ k ∧ s + n42 ≤ n ∧ rX9_add F k41 n42 (wkAd (gEntry_row S l1A)) v33 S34 fun v38 S39 => wkLt (l5I + (1 : Int32)) fun x43 => rec 1 (c + k41) (s + n42) l0A l1A 0 0 0 x43 S39 Φ)
def rX6_solveMachines_go (F : Nat) (k n : Nat) : Nat → Nat → Nat → Nat → Nat → Nat → Int32 → Int32 → Int32 → Int32 → wPS → (Unit → wPS → Prop) → Prop
  | 0, _, _, _, _, _, _, _, _, _, _, _ => False
  | k' + 1, lab, c, s, l0A, l1A, l2I, l3I, l4I, l5I, S, Φ => if lab = 0 then rX6_solveMachines_b0 F k n (rX6_solveMachines_go F k n k') c s l0A l1A l2I l3I l4I S Φ else if lab = 1 then rX6_solveMachines_b1 F k n (rX6_solveMachines_go F k n k') c s l0A l1A l5I S Φ else False
def rX6_solveMachines_s (F : Nat) (k n : Nat) (rec : Nat → Nat → Nat → Nat → Nat → Int32 → Int32 → Int32 → Int32 → wPS → (Unit → wPS → Prop) → Prop) (l0A : Nat) (l1A : Nat) (S : wPS) (Φ : (Unit → wPS → Prop)) : Prop :=
  rX6_findLetters F l0A l1A S fun v44 S45 => rX3_nodeAsked F l1A S45 fun v49 S50 => rec 0 0 0 l0A l1A v49 (0 : Int32) (0 : Int32) 0 S50 Φ
def rX6_solveMachines (F : Nat) (k n : Nat) (l0A : Nat) (l1A : Nat) (S : wPS) (Φ : (Unit → wPS → Prop)) : Prop := rX6_solveMachines_s F k n (rX6_solveMachines_go F k n F) l0A l1A S Φ
set_option maxHeartbeats 4000000 in
set_option maxRecDepth 100000 in
theorem tX6_solveMachines_go {k n : Nat} {l : Launch} {X : wkX} {d F : Nat} {S0 : wPS} {Φ : (Unit → wPS → Prop)} (C : wkC X cX6_solveMachines RX6 6 wvX6_solveMachines) (hR : wkRm X d k n) (hd : 4 ≤ d) (E : wkEnd l X cX6_solveMachines 6 none k n (fun v' S'' => ∃ v : Unit, v' = none ∧ Φ v S'' ∧ wkWF S'' ∧ wkExt S0 S'')) : ∀ k' : Nat, (∀ (c s : Nat), c ≤ k → s ≤ n → ∀ (l0A : Nat) (l1A : Nat) (l2I : Int32) (l3I : Int32) (l4I : Int32) (S : wPS), wkWF S → wkExt S0 S → wkIs S l0A 6 → wkIs S l1A 3 → rX6_solveMachines_go F k n k' 0 c s l0A l1A l2I l3I l4I 0 S Φ → wkGo l X 6 c s 15 S [some (.ref l0A), some (.ref l1A), some (.int l2I), some (.int l3I), some (.int l4I), none] []) ∧ (∀ (c s : Nat), c ≤ k → s ≤ n → ∀ (l0A : Nat) (l1A : Nat) (l5I : Int32) (S : wPS), wkWF S → wkExt S0 S → wkIs S l0A 6 → wkIs S l1A 3 → rX6_solveMachines_go F k n k' 1 c s l0A l1A 0 0 0 l5I S Φ → wkGo l X 6 c s 75 S [some (.ref l0A), some (.ref l1A), none, none, none, some (.int l5I)] []) := by
  intro k'
  induction k' with
  | zero => exact ⟨fun c s hc hs l0A l1A l2I l3I l4I S hW hE hl0A hl1A h => h.elim, fun c s hc hs l0A l1A l5I S hW hE hl0A hl1A h => h.elim⟩
  | succ k' ih =>
    refine ⟨?_, ?_⟩
    · intro c s hc hs l0A l1A l2I l3I l4I S hW hE hl0A hl1A h
      have h : rX6_solveMachines_b0 F k n (rX6_solveMachines_go F k n k') c s l0A l1A l2I l3I l4I S Φ := by
        rw [rX6_solveMachines_go, if_pos (rfl : (0 : Nat) = 0)] at h
        exact h
      unfold rX6_solveMachines_b0 at h
      refine wk_iload C dX6_solveMachines_15 rfl ?_
      refine wk_aload_n C dX6_solveMachines_17 rfl rfl ?_
      refine wk_get C (v := .int (gMachines_size S l0A)) huX6_solveMachines_6 hl0A.1 (fun cy => wAt_6 cy _ hl0A.2) rfl 7 (by decide) (List.mem_of_getElem? (i := 1) rfl) rfl rfl dX6_solveMachines_18 ?_
      refine wk_icmp_ge C (tgt := 44) dX6_solveMachines_21 (by decide) (fun c1 => ?_) (fun c1 => ?_)
      · rw [if_pos c1] at h
        refine wk_aload_n C dX6_solveMachines_44 rfl rfl ?_
        refine wk_iconst C (v := 0) dX6_solveMachines_45 (by decide) ?_
        refine wk_iload_n C dX6_solveMachines_46 rfl rfl ?_
        refine wk_callV C hR (As := [.int (0 : Int32), .int l2I]) (cnt := 2) (tX6_lettersAt (l := l) hW hl0A h) rfl (wkGoodV (List.mem_of_getElem? (i := 2) rfl) (List.mem_of_getElem? (i := 3) rfl) (List.mem_of_getElem? (i := 4) rfl) (List.mem_of_getElem? (i := 5) rfl) hbX6_solveMachines_X6_lettersAt gdX6_lettersAt) (Nat.le_trans (by decide : 0 + 1 ≤ 4) hd) (by decide) hl0A.1 (fun cy => wAt_6 cy _ hl0A.2) rfl ⟨by decide, by decide, by decide +kernel⟩ rfl rfl (Nat.le_of_ble_eq_true rfl) hc hs dX6_solveMachines_47 (fun v' S3 hp => ?_)
        obtain ⟨v2, rfl, h, hWS3, hXS3⟩ := hp
        refine wk_if_ge C (tgt := 57) dX6_solveMachines_50 (by decide) (fun c7 => ?_) (fun c7 => ?_)
        · rw [if_pos c7] at h
          refine wk_iconst C (v := 0) dX6_solveMachines_57 (by decide) ?_
          refine wk_istore C (lv' := [some (.ref l0A), some (.ref l1A), some (.int l2I), some (.int l3I), some (.int (0 : Int32)), none]) dX6_solveMachines_58 (by decide) rfl ?_
          refine wk_aload_n C dX6_solveMachines_60 rfl rfl ?_
          refine wk_iload C dX6_solveMachines_61 rfl ?_
          refine wk_iload_n C dX6_solveMachines_63 rfl rfl ?_
          refine wk_callV C hR (As := [.int (0 : Int32), .int l3I]) (cnt := 2) (tX3_tell (l := l) hWS3 (hXS3 _ _ hl1A) h) rfl (wkGoodV (List.mem_of_getElem? (i := 6) rfl) (List.mem_of_getElem? (i := 7) rfl) (List.mem_of_getElem? (i := 8) rfl) (List.mem_of_getElem? (i := 9) rfl) hbX6_solveMachines_X3_tell gdX3_tell) (Nat.le_trans (by decide : 0 + 1 ≤ 4) hd) (by decide) (hXS3 _ _ hl1A).1 (fun cy => wAt_3 cy _ (hXS3 _ _ hl1A).2) rfl ⟨by decide, by decide, by decide +kernel⟩ rfl rfl (Nat.le_of_ble_eq_true rfl) hc hs dX6_solveMachines_64 (fun v' S9 hp => ?_)
          obtain ⟨v8, rfl, h, hWS9, hXS9⟩ := hp
          refine wk_iload C dX6_solveMachines_67 rfl ?_
          refine wk_if_eq C (tgt := 106) dX6_solveMachines_69 (by decide) (fun _ => ?_) (fun c => False.elim (by revert c; decide))
          refine wk_aload_n C dX6_solveMachines_106 rfl rfl ?_
          refine wk_iload_n C dX6_solveMachines_107 rfl rfl ?_
          refine wk_aload_n C dX6_solveMachines_108 rfl rfl ?_
          refine wk_get C huX6_solveMachines_3 (hXS9 _ _ (hXS3 _ _ hl1A)).1 (fun cy => wAt_3 cy _ (hXS9 _ _ (hXS3 _ _ hl1A)).2) rfl 13 (by decide) (List.mem_of_getElem? (i := 10) rfl) rfl (congrArg some (congrArg va_rf (wf_Entry_row hWS9 (hXS9 _ _ (hXS3 _ _ hl1A))).1)) dX6_solveMachines_109 ?_
          obtain ⟨k16, n17, hk16, hn17, h⟩ := h
          refine wk_callV C hR (As := [.int l2I, .ref (wkAd (gEntry_row S9 l1A))]) (cnt := 2) (tX6_writeLetters (l := l) hWS9 (hXS9 _ _ (hXS3 _ _ hl0A)) (wf_Entry_row hWS9 (hXS9 _ _ (hXS3 _ _ hl1A))).2 h) rfl (wkGoodV (List.mem_of_getElem? (i := 11) rfl) (List.mem_of_getElem? (i := 12) rfl) (List.mem_of_getElem? (i := 13) rfl) (List.mem_of_getElem? (i := 5) rfl) hbX6_solveMachines_X6_writeLetters gdX6_writeLetters) (Nat.le_trans (by decide : 3 + 1 ≤ 4) hd) (by decide) (hXS9 _ _ (hXS3 _ _ hl0A)).1 (fun cy => wAt_6 cy _ (hXS9 _ _ (hXS3 _ _ hl0A)).2) rfl ⟨by decide, by decide, by decide +kernel⟩ rfl rfl (Nat.le_of_ble_eq_true rfl) hk16 hn17 dX6_solveMachines_112 (fun v' S14 hp => ?_)
          obtain ⟨v13, rfl, h, hWS14, hXS14⟩ := hp
          exact E _ _ _ _ _ hk16 hn17 dX6_solveMachines_115 ⟨(), rfl, h, hWS14, (wkExt.tr (wkExt.tr (wkExt.tr hE hXS3) hXS9) hXS14)⟩
        · rw [if_neg c7] at h
          refine wk_iconst C (v := 1) dX6_solveMachines_53 (by decide) ?_
          refine wk_goto C (tgt := 58) dX6_solveMachines_54 (by decide) ?_
          refine wk_istore C (lv' := [some (.ref l0A), some (.ref l1A), some (.int l2I), some (.int l3I), some (.int (1 : Int32)), none]) dX6_solveMachines_58 (by decide) rfl ?_
          refine wk_aload_n C dX6_solveMachines_60 rfl rfl ?_
          refine wk_iload C dX6_solveMachines_61 rfl ?_
          refine wk_iload_n C dX6_solveMachines_63 rfl rfl ?_
          refine wk_callV C hR (As := [.int (1 : Int32), .int l3I]) (cnt := 2) (tX3_tell (l := l) hWS3 (hXS3 _ _ hl1A) h) rfl (wkGoodV (List.mem_of_getElem? (i := 6) rfl) (List.mem_of_getElem? (i := 7) rfl) (List.mem_of_getElem? (i := 8) rfl) (List.mem_of_getElem? (i := 9) rfl) hbX6_solveMachines_X3_tell gdX3_tell) (Nat.le_trans (by decide : 0 + 1 ≤ 4) hd) (by decide) (hXS3 _ _ hl1A).1 (fun cy => wAt_3 cy _ (hXS3 _ _ hl1A).2) rfl ⟨by decide, by decide, by decide +kernel⟩ rfl rfl (Nat.le_of_ble_eq_true rfl) hc hs dX6_solveMachines_64 (fun v' S19 hp => ?_)
          obtain ⟨v18, rfl, h, hWS19, hXS19⟩ := hp
          refine wk_iload C dX6_solveMachines_67 rfl ?_
          refine wk_if_eq C (tgt := 106) dX6_solveMachines_69 (by decide) (fun c => False.elim (by revert c; decide)) (fun _ => ?_)
          refine wk_iconst C (v := 0) dX6_solveMachines_72 (by decide) ?_
          refine wk_istore C (lv' := [some (.ref l0A), some (.ref l1A), some (.int l2I), some (.int l3I), some (.int (1 : Int32)), some (.int (0 : Int32))]) dX6_solveMachines_73 (by decide) rfl ?_
          exact wk_forget (lv' := [some (.ref l0A), some (.ref l1A), none, none, none, some (.int (0 : Int32))]) (wkLs.le ⟨rfl, rfl, rfl, trivial⟩) (ih.2 _ _ hc hs _ _ _ _ hWS19 (wkExt.tr (wkExt.tr hE hXS3) hXS19) (hXS19 _ _ (hXS3 _ _ hl0A)) (hXS19 _ _ (hXS3 _ _ hl1A)) h)
      · rw [if_neg c1] at h
        refine wk_aload_n C dX6_solveMachines_24 rfl rfl ?_
        refine wk_iload C dX6_solveMachines_25 rfl ?_
        refine wk_callV C hR (As := [.int l4I]) (cnt := 1) (tX6_lowestLike (l := l) hW hl0A h) rfl (wkGoodV (List.mem_of_getElem? (i := 14) rfl) (List.mem_of_getElem? (i := 15) rfl) (List.mem_of_getElem? (i := 16) rfl) (List.mem_of_getElem? (i := 5) rfl) hbX6_solveMachines_X6_lowestLike gdX6_lowestLike) (Nat.le_trans (by decide : 1 + 1 ≤ 4) hd) (by decide) hl0A.1 (fun cy => wAt_6 cy _ hl0A.2) rfl ⟨by decide, by decide, by decide +kernel⟩ rfl rfl (Nat.le_of_ble_eq_true rfl) hc hs dX6_solveMachines_27 (fun v' S24 hp => ?_)
        obtain ⟨v23, rfl, h, hWS24, hXS24⟩ := hp
        refine wk_iload C dX6_solveMachines_30 rfl ?_
        refine wk_icmp_ne C (tgt := 38) dX6_solveMachines_32 (by decide) (fun c28 => ?_) (fun c28 => ?_)
        · rw [if_neg c28] at h
          obtain ⟨x29, ex29, h⟩ := wkLt_some h
          refine wk_iinc C (lv' := [some (.ref l0A), some (.ref l1A), some (.int l2I), some (.int l3I), some (.int x29), none]) dX6_solveMachines_38 rfl (by rw [ex29]; rfl) (by decide) rfl ?_
          refine wk_goto C (tgt := 15) dX6_solveMachines_41 (by decide) ?_
          exact wk_forget (lv' := [some (.ref l0A), some (.ref l1A), some (.int l2I), some (.int l3I), some (.int x29), none]) (wkLs.le ⟨rfl, rfl, rfl, rfl, rfl, trivial⟩) (ih.1 _ _ hc hs _ _ _ _ _ _ hWS24 (wkExt.tr hE hXS24) (hXS24 _ _ hl0A) (hXS24 _ _ hl1A) h)
        · rw [if_pos c28] at h
          obtain ⟨x30, ex30, h⟩ := wkLt_some h
          refine wk_iinc C (lv' := [some (.ref l0A), some (.ref l1A), some (.int l2I), some (.int x30), some (.int l4I), none]) dX6_solveMachines_35 rfl (by rw [ex30]; rfl) (by decide) rfl ?_
          obtain ⟨x31, ex31, h⟩ := wkLt_some h
          refine wk_iinc C (lv' := [some (.ref l0A), some (.ref l1A), some (.int l2I), some (.int x30), some (.int x31), none]) dX6_solveMachines_38 rfl (by rw [ex31]; rfl) (by decide) rfl ?_
          refine wk_goto C (tgt := 15) dX6_solveMachines_41 (by decide) ?_
          exact wk_forget (lv' := [some (.ref l0A), some (.ref l1A), some (.int l2I), some (.int x30), some (.int x31), none]) (wkLs.le ⟨rfl, rfl, rfl, rfl, rfl, trivial⟩) (ih.1 _ _ hc hs _ _ _ _ _ _ hWS24 (wkExt.tr hE hXS24) (hXS24 _ _ hl0A) (hXS24 _ _ hl1A) h)
    · intro c s hc hs l0A l1A l5I S hW hE hl0A hl1A h
      have h : rX6_solveMachines_b1 F k n (rX6_solveMachines_go F k n k') c s l0A l1A l5I S Φ := by
        rw [rX6_solveMachines_go, if_neg (show ¬ (1 : Nat) = 0 by decide), if_pos (rfl : (1 : Nat) = 1)] at h
        exact h
      unfold rX6_solveMachines_b1 at h
      refine wk_iload C dX6_solveMachines_75 rfl ?_
      refine wk_aload_n C dX6_solveMachines_77 rfl rfl ?_
      refine wk_get C (v := .int (gMachines_size S l0A)) huX6_solveMachines_6 hl0A.1 (fun cy => wAt_6 cy _ hl0A.2) rfl 7 (by decide) (List.mem_of_getElem? (i := 1) rfl) rfl rfl dX6_solveMachines_78 ?_
      refine wk_icmp_ge C (tgt := 103) dX6_solveMachines_81 (by decide) (fun c32 => ?_) (fun c32 => ?_)
      · rw [if_pos c32] at h
        refine wk_goto C (tgt := 115) dX6_solveMachines_103 (by decide) ?_
        exact E _ _ _ _ _ hc hs dX6_solveMachines_115 ⟨(), rfl, h, hW, hE⟩
      · rw [if_neg c32] at h
        refine wk_aload_n C dX6_solveMachines_84 rfl rfl ?_
        refine wk_get C huX6_solveMachines_3 hl1A.1 (fun cy => wAt_3 cy _ hl1A.2) rfl 13 (by decide) (List.mem_of_getElem? (i := 10) rfl) rfl (congrArg some (congrArg va_rf (wf_Entry_row hW hl1A).1)) dX6_solveMachines_85 ?_
        refine wk_aload_n C dX6_solveMachines_88 rfl rfl ?_
        refine wk_iload C dX6_solveMachines_89 rfl ?_
        refine wk_callV C hR (As := [.int l5I]) (cnt := 1) (tX6_lowestLike (l := l) hW hl0A h) rfl (wkGoodV (List.mem_of_getElem? (i := 14) rfl) (List.mem_of_getElem? (i := 15) rfl) (List.mem_of_getElem? (i := 16) rfl) (List.mem_of_getElem? (i := 5) rfl) hbX6_solveMachines_X6_lowestLike gdX6_lowestLike) (Nat.le_trans (by decide : 1 + 1 ≤ 4) hd) (by decide) hl0A.1 (fun cy => wAt_6 cy _ hl0A.2) rfl ⟨by decide, by decide, by decide +kernel⟩ rfl rfl (Nat.le_of_ble_eq_true rfl) hc hs dX6_solveMachines_91 (fun v' S34 hp => ?_)
        obtain ⟨v33, rfl, h, hWS34, hXS34⟩ := hp
        obtain ⟨k41, n42, hk41, hn42, h⟩ := h
        refine wk_callV C hR (As := [.int v33]) (cnt := 1) (tX9_add (l := l) hWS34 (hXS34 _ _ (wf_Entry_row hW hl1A).2) h) rfl (wkGoodV (List.mem_of_getElem? (i := 17) rfl) (List.mem_of_getElem? (i := 18) rfl) (List.mem_of_getElem? (i := 19) rfl) (List.mem_of_getElem? (i := 20) rfl) hbX6_solveMachines_X9_add gdX9_add) (Nat.le_trans (by decide : 2 + 1 ≤ 4) hd) (by decide) (hXS34 _ _ (wf_Entry_row hW hl1A).2).1 (fun cy => wAt_9 cy _ (hXS34 _ _ (wf_Entry_row hW hl1A).2).2) rfl ⟨by decide, by decide, by decide +kernel⟩ rfl rfl (Nat.le_of_ble_eq_true rfl) hk41 hn42 dX6_solveMachines_94 (fun v' S39 hp => ?_)
        obtain ⟨v38, rfl, h, hWS39, hXS39⟩ := hp
        obtain ⟨x43, ex43, h⟩ := wkLt_some h
        refine wk_iinc C (lv' := [some (.ref l0A), some (.ref l1A), none, none, none, some (.int x43)]) dX6_solveMachines_97 rfl (by rw [ex43]; rfl) (by decide) rfl ?_
        refine wk_goto C (tgt := 75) dX6_solveMachines_100 (by decide) ?_
        exact wk_forget (lv' := [some (.ref l0A), some (.ref l1A), none, none, none, some (.int x43)]) (wkLs.le ⟨rfl, rfl, rfl, trivial⟩) (ih.2 _ _ hk41 hn42 _ _ _ _ hWS39 (wkExt.tr (wkExt.tr hE hXS34) hXS39) (hXS39 _ _ (hXS34 _ _ hl0A)) (hXS39 _ _ (hXS34 _ _ hl1A)) h)
set_option maxHeartbeats 4000000 in
set_option maxRecDepth 100000 in
theorem tX6_solveMachines {l : Launch} {g : wkG} {F : Nat} {k n : Nat}  {S : wPS} {l0A : Nat} {l1A : Nat} {Φ : (Unit → wPS → Prop)} (hW : wkWF S) (hl0A : wkIs S l0A 6) (hl1A : wkIs S l1A 3) (h : rX6_solveMachines F k n l0A l1A S Φ) : wkMet l g yX6_solveMachines wvX6_solveMachines 4 k n [.ref l0A, .ref l1A] S (fun v' S'' => ∃ v : Unit, v' = none ∧ Φ v S'' ∧ wkWF S'' ∧ wkExt S S'') := by
  refine wkMet_of (ret := none) (by decide) rfl (Nat.le_of_ble_eq_true rfl) (fun X hg C hR E => ?_)
  subst hg
  have hE : wkExt S S := wkExt.rf
  have hd : 4 ≤ 4 := Nat.le_refl _
  show wkGo l X 6 0 0 0 S [some (.ref l0A), some (.ref l1A), none, none, none, none] []
  have ih := tX6_solveMachines_go (F := F) C hR hd E F
  have h : rX6_solveMachines_s F k n (rX6_solveMachines_go F k n F) l0A l1A S Φ := h
  unfold rX6_solveMachines_s at h
  refine wk_aload_n C dX6_solveMachines_0 rfl rfl ?_
  refine wk_aload_n C dX6_solveMachines_1 rfl rfl ?_
  refine wk_callV C hR (As := [.ref l1A]) (cnt := 1) (tX6_findLetters (l := l) hW hl0A hl1A h) rfl (wkGoodV (List.mem_of_getElem? (i := 21) rfl) (List.mem_of_getElem? (i := 22) rfl) (List.mem_of_getElem? (i := 23) rfl) (List.mem_of_getElem? (i := 5) rfl) hbX6_solveMachines_X6_findLetters gdX6_findLetters) (Nat.le_trans (by decide : 2 + 1 ≤ 4) hd) (by decide) hl0A.1 (fun cy => wAt_6 cy _ hl0A.2) rfl ⟨by decide, by decide, by decide +kernel⟩ rfl rfl (Nat.le_of_ble_eq_true rfl) (Nat.zero_le _) (Nat.zero_le _) dX6_solveMachines_2 (fun v' S45 hp => ?_)
  obtain ⟨v44, rfl, h, hWS45, hXS45⟩ := hp
  refine wk_aload_n C dX6_solveMachines_5 rfl rfl ?_
  refine wk_callV C hR (As := []) (cnt := 0) (tX3_nodeAsked (l := l) hWS45 (hXS45 _ _ hl1A) h) rfl (wkGoodV (List.mem_of_getElem? (i := 24) rfl) (List.mem_of_getElem? (i := 25) rfl) (List.mem_of_getElem? (i := 26) rfl) (List.mem_of_getElem? (i := 9) rfl) hbX6_solveMachines_X3_nodeAsked gdX3_nodeAsked) (Nat.le_trans (by decide : 0 + 1 ≤ 4) hd) (by decide) (hXS45 _ _ hl1A).1 (fun cy => wAt_3 cy _ (hXS45 _ _ hl1A).2) rfl ⟨by decide, by decide, by decide +kernel⟩ rfl rfl (Nat.le_of_ble_eq_true rfl) (Nat.zero_le _) (Nat.zero_le _) dX6_solveMachines_6 (fun v' S50 hp => ?_)
  obtain ⟨v49, rfl, h, hWS50, hXS50⟩ := hp
  refine wk_istore_n C (lv' := [some (.ref l0A), some (.ref l1A), some (.int v49), none, none, none]) dX6_solveMachines_9 rfl (by decide) rfl ?_
  refine wk_iconst C (v := 0) dX6_solveMachines_10 (by decide) ?_
  refine wk_istore_n C (lv' := [some (.ref l0A), some (.ref l1A), some (.int v49), some (.int (0 : Int32)), none, none]) dX6_solveMachines_11 rfl (by decide) rfl ?_
  refine wk_iconst C (v := 0) dX6_solveMachines_12 (by decide) ?_
  refine wk_istore C (lv' := [some (.ref l0A), some (.ref l1A), some (.int v49), some (.int (0 : Int32)), some (.int (0 : Int32)), none]) dX6_solveMachines_13 (by decide) rfl ?_
  exact wk_forget (lv' := [some (.ref l0A), some (.ref l1A), some (.int v49), some (.int (0 : Int32)), some (.int (0 : Int32)), none]) (wkLs.le ⟨rfl, rfl, rfl, rfl, rfl, trivial⟩) (ih.1 _ _ (Nat.zero_le _) (Nat.zero_le _) _ _ _ _ _ _ hWS50 (wkExt.tr (wkExt.tr hE hXS45) hXS50) (hXS50 _ _ (hXS45 _ _ hl0A)) (hXS50 _ _ (hXS45 _ _ hl1A)) h)
def wvX6_leastWay : List Cond := .code yX6_leastWay cX6_leastWay 6 (some .int) :: (([.fieldLink RX6 43 "Witnessworks$Machines" "size" "I", .fieldLink RX6 30 "Witnessworks$Machines" "ways" "[I", .static yX11_lowest, .initialized RX11, .static yX11_has, .methodLink RX6 108 yX6_wonByFirst, .instanceMethod yX6_wonByFirst, .selects RX6 yX6_wonByFirst yX6_wonByFirst, .initialized RX6] : List Cond) ++ ((wsX60) ++ (wvX11_lowest ++ (wvX11_has ++ (wvX6_wonByFirst)))))
theorem huX6_leastWay_6 : ∀ w ∈ u_ws RX6 TX6 8, w ∈ wvX6_leastWay := fun w h => List.mem_cons_of_mem _ (List.mem_append_right _ (List.mem_append_left _ h))
theorem hbX6_leastWay_X11_lowest : ∀ w ∈ wvX11_lowest, w ∈ wvX6_leastWay := fun w h => List.mem_cons_of_mem _ (List.mem_append_right _ (List.mem_append_right _ (List.mem_append_left _ h)))
theorem hbX6_leastWay_X11_has : ∀ w ∈ wvX11_has, w ∈ wvX6_leastWay := fun w h => List.mem_cons_of_mem _ (List.mem_append_right _ (List.mem_append_right _ (List.mem_append_right _ (List.mem_append_left _ h))))
theorem hbX6_leastWay_X6_wonByFirst : ∀ w ∈ wvX6_wonByFirst, w ∈ wvX6_leastWay := fun w h => List.mem_cons_of_mem _ (List.mem_append_right _ (List.mem_append_right _ (List.mem_append_right _ (List.mem_append_right _ h))))
theorem gdX6_leastWay : ∀ w ∈ wvX6_leastWay, wkGd w := wkGdC rfl (wkGdA (wkGdL (by decide +kernel)) (wkGdA gdX6 (wkGdA gdX11_lowest (wkGdA gdX11_has gdX6_wonByFirst))))
def rX6_leastWay_b0 (F : Nat) (rec : Nat → Nat → Int32 → Int32 → Int32 → Int32 → Int32 → wPS → (Int32 → wPS → Prop) → Prop) (l0A : Nat) (l1I : Int32) (l2I : Int32) (l3I : Int32) (l4I : Int32) (l5I : Int32) (S : wPS) (Φ : (Int32 → wPS → Prop)) : Prop :=
  if (gMachines_size S l0A) ≤ l5I then (¬ (l1I < 0 ∨ S.len (wkAd (gMachines_ways S l0A)) ≤ (l1I).toNatClampNeg) ∧ wkLt (wuI S (wkAd (gMachines_ways S l0A)) l1I l4I) fun S3 => rX11_lowest F l4I S3 fun v4 S5 => Φ v4 S5) else (rX11_has F l4I l5I S fun v9 S10 => if v9 = 0 then (wkLt (l5I + (1 : Int32)) fun x15 => rec 0 l0A l1I l2I l3I l4I x15 S10 Φ) else (¬ (l1I < 0 ∨ S10.len (wkAd (gMachines_ways S10 l0A)) ≤ (l1I).toNatClampNeg) ∧ wkLt (wuI S10 (wkAd (gMachines_ways S10 l0A)) l1I ((1 : Int32) <<< (l5I &&& 31))) fun S17 => rX6_wonByFirst F 48 l0A (((1 : Int32) <<< ((gMachines_size S17 l0A) &&& 31)) - (1 : Int32)) (0 : Int32) S17 fun v18 S19 => rX11_has F v18 l3I S19 fun v23 S24 => if l2I = 0 then (if v23 = (1 : Int32) then (Φ l5I S24) else (wkLt (l5I + (1 : Int32)) fun x32 => rec 0 l0A l1I l2I l3I l4I x32 S24 Φ)) else (if v23 = (0 : Int32) then (Φ l5I S24) else (wkLt (l5I + (1 : Int32)) fun x30 => rec 0 l0A l1I l2I l3I l4I x30 S24 Φ))))
def rX6_leastWay_go (F : Nat) : Nat → Nat → Nat → Int32 → Int32 → Int32 → Int32 → Int32 → wPS → (Int32 → wPS → Prop) → Prop
  | 0, _, _, _, _, _, _, _, _, _ => False
  | k' + 1, lab, l0A, l1I, l2I, l3I, l4I, l5I, S, Φ => if lab = 0 then rX6_leastWay_b0 F (rX6_leastWay_go F k') l0A l1I l2I l3I l4I l5I S Φ else False
def rX6_leastWay_s (F : Nat) (rec : Nat → Nat → Int32 → Int32 → Int32 → Int32 → Int32 → wPS → (Int32 → wPS → Prop) → Prop) (l0A : Nat) (l1I : Int32) (l2I : Int32) (l3I : Int32) (S : wPS) (Φ : (Int32 → wPS → Prop)) : Prop :=
  ¬ (l1I < 0 ∨ S.len (wkAd (gMachines_ways S l0A)) ≤ (l1I).toNatClampNeg) ∧ wkLt ((S.rI (wkAd (gMachines_ways S l0A)) (l1I).toNatClampNeg)) fun x34 => rec 0 l0A l1I l2I l3I x34 (0 : Int32) S Φ
def rX6_leastWay (F : Nat) (l0A : Nat) (l1I : Int32) (l2I : Int32) (l3I : Int32) (S : wPS) (Φ : (Int32 → wPS → Prop)) : Prop := rX6_leastWay_s F (rX6_leastWay_go F F) l0A l1I l2I l3I S Φ
set_option maxHeartbeats 4000000 in
set_option maxRecDepth 100000 in
theorem tX6_leastWay_go {l : Launch} {X : wkX} {d F : Nat} {S0 : wPS} {Φ : (Int32 → wPS → Prop)} (C : wkC X cX6_leastWay RX6 6 wvX6_leastWay) (hR : wkRm X d 0 0) (hd : 51 ≤ d) (E : wkEnd l X cX6_leastWay 6 (some .int) 0 0 (fun v' S'' => ∃ v : Int32, v' = some (.int v) ∧ Φ v S'' ∧ wkWF S'' ∧ wkExt S0 S'')) : ∀ k' : Nat, (∀ (l0A : Nat) (l1I : Int32) (l2I : Int32) (l3I : Int32) (l4I : Int32) (l5I : Int32) (S : wPS), wkWF S → wkExt S0 S → wkIs S l0A 6 → rX6_leastWay_go F k' 0 l0A l1I l2I l3I l4I l5I S Φ → wkGo l X 6 0 0 11 S [some (.ref l0A), some (.int l1I), some (.int l2I), some (.int l3I), some (.int l4I), some (.int l5I)] []) := by
  intro k'
  induction k' with
  | zero => exact fun l0A l1I l2I l3I l4I l5I S hW hE hl0A h => h.elim
  | succ k' ih =>
    · intro l0A l1I l2I l3I l4I l5I S hW hE hl0A h
      have h : rX6_leastWay_b0 F (rX6_leastWay_go F k') l0A l1I l2I l3I l4I l5I S Φ := by
        rw [rX6_leastWay_go, if_pos (rfl : (0 : Nat) = 0)] at h
        exact h
      unfold rX6_leastWay_b0 at h
      refine wk_iload C dX6_leastWay_11 rfl ?_
      refine wk_aload_n C dX6_leastWay_13 rfl rfl ?_
      refine wk_get C (v := .int (gMachines_size S l0A)) huX6_leastWay_6 hl0A.1 (fun cy => wAt_6 cy _ hl0A.2) rfl 7 (by decide) (List.mem_of_getElem? (i := 1) rfl) rfl rfl dX6_leastWay_14 ?_
      refine wk_icmp_ge C (tgt := 78) dX6_leastWay_17 (by decide) (fun c1 => ?_) (fun c1 => ?_)
      · rw [if_pos c1] at h
        refine wk_aload_n C dX6_leastWay_78 rfl rfl ?_
        refine wk_get C huX6_leastWay_6 hl0A.1 (fun cy => wAt_6 cy _ hl0A.2) rfl 6 (by decide) (List.mem_of_getElem? (i := 2) rfl) rfl (congrArg some (congrArg va_rf (wf_Machines_ways hW hl0A).1)) dX6_leastWay_79 ?_
        refine wk_iload_n C dX6_leastWay_82 rfl rfl ?_
        refine wk_iload C dX6_leastWay_83 rfl ?_
        obtain ⟨i2, h⟩ := h
        obtain ⟨S3, eS3, h⟩ := wkLt_some h
        refine wk_iast C (wf_Machines_ways hW hl0A).2.1 (wf_Machines_ways hW hl0A).2.2 i2 eS3.symm dX6_leastWay_85 ?_
        have hWS3 : wkWF S3 := by rw [eS3]; exact hW
        have hXS3 : wkExt S S3 := by rw [eS3]; exact wkExt.rf
        refine wk_iload C dX6_leastWay_86 rfl ?_
        refine wk_callN C hR (y := yX11_lowest) (host := "Witnessworks") (As := [.int l4I]) (cnt := 1) (tX11_lowest (l := l) hWS3  h) rfl (fun w h => ⟨hbX6_leastWay_X11_lowest w h, gdX11_lowest w h⟩) (by decide +kernel) (List.mem_of_getElem? (i := 3) rfl) (List.mem_of_getElem? (i := 4) rfl) (Nat.le_trans (by decide : 1 + 1 ≤ 51) hd) (by decide) ⟨by decide, by decide, by decide +kernel⟩ rfl rfl (Nat.le_of_ble_eq_true rfl) (Nat.le_refl 0) (Nat.le_refl 0) dX6_leastWay_88 (fun v' S5 hp => ?_)
        obtain ⟨v4, rfl, h, hWS5, hXS5⟩ := hp
        exact E _ _ _ _ _ _ (Nat.le_refl 0) (Nat.le_refl 0) dX6_leastWay_91 ⟨v4, rfl, h, hWS5, (wkExt.tr (wkExt.tr hE hXS3) hXS5)⟩
      · rw [if_neg c1] at h
        refine wk_iload C dX6_leastWay_20 rfl ?_
        refine wk_iload C dX6_leastWay_22 rfl ?_
        refine wk_callN C hR (y := yX11_has) (host := "Witnessworks") (As := [.int l4I, .int l5I]) (cnt := 2) (tX11_has (l := l) hW  h) rfl (fun w h => ⟨hbX6_leastWay_X11_has w h, gdX11_has w h⟩) (by decide +kernel) (List.mem_of_getElem? (i := 5) rfl) (List.mem_of_getElem? (i := 4) rfl) (Nat.le_trans (by decide : 0 + 1 ≤ 51) hd) (by decide) ⟨by decide, by decide, by decide +kernel⟩ rfl rfl (Nat.le_of_ble_eq_true rfl) (Nat.le_refl 0) (Nat.le_refl 0) dX6_leastWay_24 (fun v' S10 hp => ?_)
        obtain ⟨v9, rfl, h, hWS10, hXS10⟩ := hp
        refine wk_if_eq C (tgt := 72) dX6_leastWay_27 (by decide) (fun c14 => ?_) (fun c14 => ?_)
        · rw [if_pos c14] at h
          obtain ⟨x15, ex15, h⟩ := wkLt_some h
          refine wk_iinc C (lv' := [some (.ref l0A), some (.int l1I), some (.int l2I), some (.int l3I), some (.int l4I), some (.int x15)]) dX6_leastWay_72 rfl (by rw [ex15]; rfl) (by decide) rfl ?_
          refine wk_goto C (tgt := 11) dX6_leastWay_75 (by decide) ?_
          exact wk_forget (lv' := [some (.ref l0A), some (.int l1I), some (.int l2I), some (.int l3I), some (.int l4I), some (.int x15)]) (wkLs.le ⟨rfl, rfl, rfl, rfl, rfl, rfl, trivial⟩) (ih _ _ _ _ _ _ _ hWS10 (wkExt.tr hE hXS10) (hXS10 _ _ hl0A) h)
        · rw [if_neg c14] at h
          refine wk_aload_n C dX6_leastWay_30 rfl rfl ?_
          refine wk_get C huX6_leastWay_6 (hXS10 _ _ hl0A).1 (fun cy => wAt_6 cy _ (hXS10 _ _ hl0A).2) rfl 6 (by decide) (List.mem_of_getElem? (i := 2) rfl) rfl (congrArg some (congrArg va_rf (wf_Machines_ways hWS10 (hXS10 _ _ hl0A)).1)) dX6_leastWay_31 ?_
          refine wk_iload_n C dX6_leastWay_34 rfl rfl ?_
          refine wk_iconst C (v := 1) dX6_leastWay_35 (by decide) ?_
          refine wk_iload C dX6_leastWay_36 rfl ?_
          refine wk_ishl C dX6_leastWay_38 rfl ?_
          obtain ⟨i16, h⟩ := h
          obtain ⟨S17, eS17, h⟩ := wkLt_some h
          refine wk_iast C (wf_Machines_ways hWS10 (hXS10 _ _ hl0A)).2.1 (wf_Machines_ways hWS10 (hXS10 _ _ hl0A)).2.2 i16 eS17.symm dX6_leastWay_39 ?_
          have hWS17 : wkWF S17 := by rw [eS17]; exact hWS10
          have hXS17 : wkExt S10 S17 := by rw [eS17]; exact wkExt.rf
          refine wk_aload_n C dX6_leastWay_40 rfl rfl ?_
          refine wk_iconst C (v := 1) dX6_leastWay_41 (by decide) ?_
          refine wk_aload_n C dX6_leastWay_42 rfl rfl ?_
          refine wk_get C (v := .int (gMachines_size S17 l0A)) huX6_leastWay_6 (hXS17 _ _ (hXS10 _ _ hl0A)).1 (fun cy => wAt_6 cy _ (hXS17 _ _ (hXS10 _ _ hl0A)).2) rfl 7 (by decide) (List.mem_of_getElem? (i := 1) rfl) rfl rfl dX6_leastWay_43 ?_
          refine wk_ishl C dX6_leastWay_46 rfl ?_
          refine wk_iconst C (v := 1) dX6_leastWay_47 (by decide) ?_
          refine wk_isub C dX6_leastWay_48 rfl ?_
          refine wk_iconst C (v := 0) dX6_leastWay_49 (by decide) ?_
          refine wk_callV C hR (As := [.int (((1 : Int32) <<< ((gMachines_size S17 l0A) &&& 31)) - (1 : Int32)), .int (0 : Int32)]) (cnt := 2) (tX6_wonByFirst (l := l) hWS17 (hXS17 _ _ (hXS10 _ _ hl0A)) h) rfl (wkGoodV (List.mem_of_getElem? (i := 6) rfl) (List.mem_of_getElem? (i := 7) rfl) (List.mem_of_getElem? (i := 8) rfl) (List.mem_of_getElem? (i := 9) rfl) hbX6_leastWay_X6_wonByFirst gdX6_wonByFirst) (Nat.le_trans (by decide : 50 + 1 ≤ 51) hd) (by decide) (hXS17 _ _ (hXS10 _ _ hl0A)).1 (fun cy => wAt_6 cy _ (hXS17 _ _ (hXS10 _ _ hl0A)).2) rfl ⟨by decide, by decide, by decide +kernel⟩ rfl rfl (Nat.le_of_ble_eq_true rfl) (Nat.le_refl 0) (Nat.le_refl 0) dX6_leastWay_50 (fun v' S19 hp => ?_)
          obtain ⟨v18, rfl, h, hWS19, hXS19⟩ := hp
          refine wk_iload_n C dX6_leastWay_53 rfl rfl ?_
          refine wk_callN C hR (y := yX11_has) (host := "Witnessworks") (As := [.int v18, .int l3I]) (cnt := 2) (tX11_has (l := l) hWS19  h) rfl (fun w h => ⟨hbX6_leastWay_X11_has w h, gdX11_has w h⟩) (by decide +kernel) (List.mem_of_getElem? (i := 5) rfl) (List.mem_of_getElem? (i := 4) rfl) (Nat.le_trans (by decide : 0 + 1 ≤ 51) hd) (by decide) ⟨by decide, by decide, by decide +kernel⟩ rfl rfl (Nat.le_of_ble_eq_true rfl) (Nat.le_refl 0) (Nat.le_refl 0) dX6_leastWay_54 (fun v' S24 hp => ?_)
          obtain ⟨v23, rfl, h, hWS24, hXS24⟩ := hp
          refine wk_iload_n C dX6_leastWay_57 rfl rfl ?_
          refine wk_if_ne C (tgt := 65) dX6_leastWay_58 (by decide) (fun c28 => ?_) (fun c28 => ?_)
          · rw [if_neg c28] at h
            refine wk_iconst C (v := 0) dX6_leastWay_65 (by decide) ?_
            refine wk_icmp_ne C (tgt := 72) dX6_leastWay_66 (by decide) (fun c29 => ?_) (fun c29 => ?_)
            · rw [if_neg c29] at h
              obtain ⟨x30, ex30, h⟩ := wkLt_some h
              refine wk_iinc C (lv' := [some (.ref l0A), some (.int l1I), some (.int l2I), some (.int l3I), some (.int l4I), some (.int x30)]) dX6_leastWay_72 rfl (by rw [ex30]; rfl) (by decide) rfl ?_
              refine wk_goto C (tgt := 11) dX6_leastWay_75 (by decide) ?_
              exact wk_forget (lv' := [some (.ref l0A), some (.int l1I), some (.int l2I), some (.int l3I), some (.int l4I), some (.int x30)]) (wkLs.le ⟨rfl, rfl, rfl, rfl, rfl, rfl, trivial⟩) (ih _ _ _ _ _ _ _ hWS24 (wkExt.tr (wkExt.tr (wkExt.tr (wkExt.tr hE hXS10) hXS17) hXS19) hXS24) (hXS24 _ _ (hXS19 _ _ (hXS17 _ _ (hXS10 _ _ hl0A)))) h)
            · rw [if_pos c29] at h
              refine wk_iload C dX6_leastWay_69 rfl ?_
              exact E _ _ _ _ _ _ (Nat.le_refl 0) (Nat.le_refl 0) dX6_leastWay_71 ⟨l5I, rfl, h, hWS24, (wkExt.tr (wkExt.tr (wkExt.tr (wkExt.tr hE hXS10) hXS17) hXS19) hXS24)⟩
          · rw [if_pos c28] at h
            refine wk_iconst C (v := 1) dX6_leastWay_61 (by decide) ?_
            refine wk_goto C (tgt := 66) dX6_leastWay_62 (by decide) ?_
            refine wk_icmp_ne C (tgt := 72) dX6_leastWay_66 (by decide) (fun c31 => ?_) (fun c31 => ?_)
            · rw [if_neg c31] at h
              obtain ⟨x32, ex32, h⟩ := wkLt_some h
              refine wk_iinc C (lv' := [some (.ref l0A), some (.int l1I), some (.int l2I), some (.int l3I), some (.int l4I), some (.int x32)]) dX6_leastWay_72 rfl (by rw [ex32]; rfl) (by decide) rfl ?_
              refine wk_goto C (tgt := 11) dX6_leastWay_75 (by decide) ?_
              exact wk_forget (lv' := [some (.ref l0A), some (.int l1I), some (.int l2I), some (.int l3I), some (.int l4I), some (.int x32)]) (wkLs.le ⟨rfl, rfl, rfl, rfl, rfl, rfl, trivial⟩) (ih _ _ _ _ _ _ _ hWS24 (wkExt.tr (wkExt.tr (wkExt.tr (wkExt.tr hE hXS10) hXS17) hXS19) hXS24) (hXS24 _ _ (hXS19 _ _ (hXS17 _ _ (hXS10 _ _ hl0A)))) h)
            · rw [if_pos c31] at h
              refine wk_iload C dX6_leastWay_69 rfl ?_
              exact E _ _ _ _ _ _ (Nat.le_refl 0) (Nat.le_refl 0) dX6_leastWay_71 ⟨l5I, rfl, h, hWS24, (wkExt.tr (wkExt.tr (wkExt.tr (wkExt.tr hE hXS10) hXS17) hXS19) hXS24)⟩
set_option maxHeartbeats 4000000 in
set_option maxRecDepth 100000 in
theorem tX6_leastWay {l : Launch} {g : wkG} {F : Nat}  {S : wPS} {l0A : Nat} {l1I : Int32} {l2I : Int32} {l3I : Int32} {Φ : (Int32 → wPS → Prop)} (hW : wkWF S) (hl0A : wkIs S l0A 6) (h : rX6_leastWay F l0A l1I l2I l3I S Φ) : wkMet l g yX6_leastWay wvX6_leastWay 51 0 0 [.ref l0A, .int l1I, .int l2I, .int l3I] S (fun v' S'' => ∃ v : Int32, v' = some (.int v) ∧ Φ v S'' ∧ wkWF S'' ∧ wkExt S S'') := by
  refine wkMet_of (ret := (some .int)) (by decide) rfl (Nat.le_of_ble_eq_true rfl) (fun X hg C hR E => ?_)
  subst hg
  have hE : wkExt S S := wkExt.rf
  have hd : 51 ≤ 51 := Nat.le_refl _
  show wkGo l X 6 0 0 0 S [some (.ref l0A), some (.int l1I), some (.int l2I), some (.int l3I), none, none] []
  have ih := tX6_leastWay_go (F := F) C hR hd E F
  have h : rX6_leastWay_s F (rX6_leastWay_go F F) l0A l1I l2I l3I S Φ := h
  unfold rX6_leastWay_s at h
  refine wk_aload_n C dX6_leastWay_0 rfl rfl ?_
  refine wk_get C huX6_leastWay_6 hl0A.1 (fun cy => wAt_6 cy _ hl0A.2) rfl 6 (by decide) (List.mem_of_getElem? (i := 2) rfl) rfl (congrArg some (congrArg va_rf (wf_Machines_ways hW hl0A).1)) dX6_leastWay_1 ?_
  refine wk_iload_n C dX6_leastWay_4 rfl rfl ?_
  obtain ⟨i33, h⟩ := h
  refine wk_iald C (wf_Machines_ways hW hl0A).2.1 (wf_Machines_ways hW hl0A).2.2 i33 rfl dX6_leastWay_5 ?_
  obtain ⟨x34, ex34, h⟩ := wkLt_some h
  refine wk_topi ex34 ?_
  refine wk_istore C (lv' := [some (.ref l0A), some (.int l1I), some (.int l2I), some (.int l3I), some (.int x34), none]) dX6_leastWay_6 (by decide) rfl ?_
  refine wk_iconst C (v := 0) dX6_leastWay_8 (by decide) ?_
  refine wk_istore C (lv' := [some (.ref l0A), some (.int l1I), some (.int l2I), some (.int l3I), some (.int x34), some (.int (0 : Int32))]) dX6_leastWay_9 (by decide) rfl ?_
  exact wk_forget (lv' := [some (.ref l0A), some (.int l1I), some (.int l2I), some (.int l3I), some (.int x34), some (.int (0 : Int32))]) (wkLs.le ⟨rfl, rfl, rfl, rfl, rfl, rfl, trivial⟩) (ih _ _ _ _ _ _ _ hW hE hl0A h)
