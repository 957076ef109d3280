def wvX8_solveRoots : List Cond := .code yX8_solveRoots cX8_solveRoots 5 none :: (([.fieldLink RX8 173 "Witnessworks$Numbers" "chainCount" "I", .fieldLink RX8 54 "Witnessworks$Entry" "row" "LWitnessworks$Row;", .methodLink RX8 176 yX8_signInRow, .instanceMethod yX8_signInRow, .selects RX8 yX8_signInRow yX8_signInRow, .initialized RX8, .methodLink RX8 58 yX9_add, .instanceMethod yX9_add, .selects RX9 yX9_add yX9_add, .initialized RX9, .methodLink RX8 163 yX8_buildChain, .instanceMethod yX8_buildChain, .selects RX8 yX8_buildChain yX8_buildChain, .methodLink RX8 166 yX8_rootsOfPart, .instanceMethod yX8_rootsOfPart, .selects RX8 yX8_rootsOfPart yX8_rootsOfPart, .fieldLink RX8 74 "Witnessworks$Entry" "boundNow" "I", .methodLink RX8 40 yX3_tell, .instanceMethod yX3_tell, .selects RX3 yX3_tell yX3_tell, .initialized RX3, .methodLink RX8 169 yX8_writeParts, .instanceMethod yX8_writeParts, .selects RX8 yX8_writeParts yX8_writeParts] : List Cond) ++ ((wsX80 ++ (wsX30)) ++ (wvX8_signInRow ++ (wvX9_add ++ (wvX8_buildChain ++ (wvX8_rootsOfPart ++ (wvX3_tell ++ (wvX8_writeParts))))))))
theorem huX8_solveRoots_8 : ∀ w ∈ u_ws RX8 TX8 9, w ∈ wvX8_solveRoots := fun w h => List.mem_cons_of_mem _ (List.mem_append_right _ (List.mem_append_left _ (List.mem_append_left _ h)))
theorem huX8_solveRoots_3 : ∀ w ∈ u_ws RX3 TX3 17, w ∈ wvX8_solveRoots := fun w h => List.mem_cons_of_mem _ (List.mem_append_right _ (List.mem_append_left _ (List.mem_append_right _ h)))
theorem hbX8_solveRoots_X8_signInRow : ∀ w ∈ wvX8_signInRow, w ∈ wvX8_solveRoots := fun w h => List.mem_cons_of_mem _ (List.mem_append_right _ (List.mem_append_right _ (List.mem_append_left _ h)))
theorem hbX8_solveRoots_X9_add : ∀ w ∈ wvX9_add, w ∈ wvX8_solveRoots := fun w h => List.mem_cons_of_mem _ (List.mem_append_right _ (List.mem_append_right _ (List.mem_append_right _ (List.mem_append_left _ h))))
theorem hbX8_solveRoots_X8_buildChain : ∀ w ∈ wvX8_buildChain, w ∈ wvX8_solveRoots := fun w h => List.mem_cons_of_mem _ (List.mem_append_right _ (List.mem_append_right _ (List.mem_append_right _ (List.mem_append_right _ (List.mem_append_left _ h)))))
theorem hbX8_solveRoots_X8_rootsOfPart : ∀ w ∈ wvX8_rootsOfPart, w ∈ wvX8_solveRoots := fun w h => List.mem_cons_of_mem _ (List.mem_append_right _ (List.mem_append_right _ (List.mem_append_right _ (List.mem_append_right _ (List.mem_append_right _ (List.mem_append_left _ h))))))
theorem hbX8_solveRoots_X3_tell : ∀ w ∈ wvX3_tell, w ∈ wvX8_solveRoots := fun w h => List.mem_cons_of_mem _ (List.mem_append_right _ (List.mem_append_right _ (List.mem_append_right _ (List.mem_append_right _ (List.mem_append_right _ (List.mem_append_right _ (List.mem_append_left _ h)))))))
theorem hbX8_solveRoots_X8_writeParts : ∀ w ∈ wvX8_writeParts, w ∈ wvX8_solveRoots := fun w h => List.mem_cons_of_mem _ (List.mem_append_right _ (List.mem_append_right _ (List.mem_append_right _ (List.mem_append_right _ (List.mem_append_right _ (List.mem_append_right _ (List.mem_append_right _ h)))))))
theorem gdX8_solveRoots : ∀ w ∈ wvX8_solveRoots, wkGd w := wkGdC rfl (wkGdA (wkGdL (by decide +kernel)) (wkGdA (wkGdA gdX8 gdX3) (wkGdA gdX8_signInRow (wkGdA gdX9_add (wkGdA gdX8_buildChain (wkGdA gdX8_rootsOfPart (wkGdA gdX3_tell gdX8_writeParts)))))))
def rX8_solveRoots_b0 (F : Nat) (k n : Nat) (rec : Nat → Nat → Nat → Nat → Nat → Int32 → wPS → (Unit → wPS → Prop) → Prop) (c s : Nat) (l0A : Nat) (l1A : Nat) (l4I : Int32) (S : wPS) (Φ : (Unit → wPS → Prop)) : Prop :=
  if ((2 : Int32) * (gNumbers_chainCount S l0A)) ≤ l4I then (Φ () S) else (rX8_signInRow F l0A l4I S fun v2 S3 => ∃ k10 n11 : Nat, c + k10 ≤ k ∧ s + n11 ≤ n ∧ rX9_add F k10 n11 (wkAd (gEntry_row S l1A)) v2 S3 fun v7 S8 => wkLt (l4I + (1 : Int32)) fun x12 => rec 0 (c + k10) (s + n11) l0A l1A x12 S8 Φ)
def rX8_solveRoots_go (F : Nat) (k n : Nat) : Nat → Nat → Nat → Nat → Nat → Nat → Int32 → wPS → (Unit → wPS → Prop) → Prop
  | 0, _, _, _, _, _, _, _, _ => False
  | k' + 1, lab, c, s, l0A, l1A, l4I, S, Φ => if lab = 0 then rX8_solveRoots_b0 F k n (rX8_solveRoots_go F k n k') c s l0A l1A l4I S Φ else False
def rX8_solveRoots_s (F : Nat) (k n : Nat) (rec : Nat → Nat → Nat → Nat → Nat → Int32 → wPS → (Unit → wPS → Prop) → Prop) (l0A : Nat) (l1A : Nat) (S : wPS) (Φ : (Unit → wPS → Prop)) : Prop :=
  rX8_buildChain F l0A l1A S fun v13 S14 => rX8_rootsOfPart F l0A (0 : Int32) (0 : Int32) S14 fun v18 S19 => if v18 < (gEntry_boundNow S19 l1A) then (rX3_tell F l1A (0 : Int32) v18 S19 fun v24 S25 => rec 0 0 0 l0A l1A (0 : Int32) S25 Φ) else (rX3_tell F l1A (1 : Int32) v18 S19 fun v29 S30 => ∃ k37 n38 : Nat, 0 + k37 ≤ k ∧ 0 + n38 ≤ n ∧ rX8_writeParts F 48 k37 n38 l0A (0 : Int32) (0 : Int32) (wkAd (gEntry_row S30 l1A)) S30 fun v34 S35 => Φ () S35)
def rX8_solveRoots (F : Nat) (k n : Nat) (l0A : Nat) (l1A : Nat) (S : wPS) (Φ : (Unit → wPS → Prop)) : Prop := rX8_solveRoots_s F k n (rX8_solveRoots_go F k n F) l0A l1A S Φ
set_option maxHeartbeats 4000000 in
set_option maxRecDepth 100000 in
theorem tX8_solveRoots_go {k n : Nat} {l : Launch} {X : wkX} {d F : Nat} {S0 : wPS} {Φ : (Unit → wPS → Prop)} (C : wkC X cX8_solveRoots RX8 5 wvX8_solveRoots) (hR : wkRm X d k n) (hd : 52 ≤ d) (E : wkEnd l X cX8_solveRoots 5 none k n (fun v' S'' => ∃ v : Unit, v' = none ∧ Φ v S'' ∧ wkWF S'' ∧ wkExt S0 S'')) : ∀ k' : Nat, (∀ (c s : Nat), c ≤ k → s ≤ n → ∀ (l0A : Nat) (l1A : Nat) (l4I : Int32) (S : wPS), wkWF S → wkExt S0 S → wkIs S l0A 8 → wkIs S l1A 3 → rX8_solveRoots_go F k n k' 0 c s l0A l1A l4I S Φ → wkGo l X 5 c s 52 S [some (.ref l0A), some (.ref l1A), none, none, some (.int l4I)] []) := by
  intro k'
  induction k' with
  | zero => exact fun c s hc hs l0A l1A l4I S hW hE hl0A hl1A h => h.elim
  | succ k' ih =>
    · intro c s hc hs l0A l1A l4I S hW hE hl0A hl1A h
      have h : rX8_solveRoots_b0 F k n (rX8_solveRoots_go F k n k') c s l0A l1A l4I S Φ := by
        rw [rX8_solveRoots_go, if_pos (rfl : (0 : Nat) = 0)] at h
        exact h
      unfold rX8_solveRoots_b0 at h
      refine wk_iload C dX8_solveRoots_52 rfl ?_
      refine wk_iconst C (v := 2) dX8_solveRoots_54 (by decide) ?_
      refine wk_aload_n C dX8_solveRoots_55 rfl rfl ?_
      refine wk_get C (v := .int (gNumbers_chainCount S l0A)) huX8_solveRoots_8 hl0A.1 (fun cy => wAt_8 cy _ hl0A.2) rfl 8 (by decide) (List.mem_of_getElem? (i := 1) rfl) rfl rfl dX8_solveRoots_56 ?_
      refine wk_imul C dX8_solveRoots_59 rfl ?_
      refine wk_icmp_ge C (tgt := 82) dX8_solveRoots_60 (by decide) (fun c1 => ?_) (fun c1 => ?_)
      · rw [if_pos c1] at h
        exact E _ _ _ _ _ hc hs dX8_solveRoots_82 ⟨(), rfl, h, hW, hE⟩
      · rw [if_neg c1] at h
        refine wk_aload_n C dX8_solveRoots_63 rfl rfl ?_
        refine wk_get C huX8_solveRoots_3 hl1A.1 (fun cy => wAt_3 cy _ hl1A.2) rfl 13 (by decide) (List.mem_of_getElem? (i := 2) rfl) rfl (congrArg some (congrArg va_rf (wf_Entry_row hW hl1A).1)) dX8_solveRoots_64 ?_
        refine wk_aload_n C dX8_solveRoots_67 rfl rfl ?_
        refine wk_iload C dX8_solveRoots_68 rfl ?_
        refine wk_callV C hR (As := [.int l4I]) (cnt := 1) (tX8_signInRow (l := l) hW hl0A h) rfl (wkGoodV (List.mem_of_getElem? (i := 3) rfl) (List.mem_of_getElem? (i := 4) rfl) (List.mem_of_getElem? (i := 5) rfl) (List.mem_of_getElem? (i := 6) rfl) hbX8_solveRoots_X8_signInRow gdX8_signInRow) (Nat.le_trans (by decide : 1 + 1 ≤ 52) hd) (by decide) hl0A.1 (fun cy => wAt_8 cy _ hl0A.2) rfl ⟨by decide, by decide, by decide +kernel⟩ rfl rfl (Nat.le_of_ble_eq_true rfl) hc hs dX8_solveRoots_70 (fun v' S3 hp => ?_)
        obtain ⟨v2, rfl, h, hWS3, hXS3⟩ := hp
        obtain ⟨k10, n11, hk10, hn11, h⟩ := h
        refine wk_callV C hR (As := [.int v2]) (cnt := 1) (tX9_add (l := l) hWS3 (hXS3 _ _ (wf_Entry_row hW hl1A).2) h) rfl (wkGoodV (List.mem_of_getElem? (i := 7) rfl) (List.mem_of_getElem? (i := 8) rfl) (List.mem_of_getElem? (i := 9) rfl) (List.mem_of_getElem? (i := 10) rfl) hbX8_solveRoots_X9_add gdX9_add) (Nat.le_trans (by decide : 2 + 1 ≤ 52) hd) (by decide) (hXS3 _ _ (wf_Entry_row hW hl1A).2).1 (fun cy => wAt_9 cy _ (hXS3 _ _ (wf_Entry_row hW hl1A).2).2) rfl ⟨by decide, by decide, by decide +kernel⟩ rfl rfl (Nat.le_of_ble_eq_true rfl) hk10 hn11 dX8_solveRoots_73 (fun v' S8 hp => ?_)
        obtain ⟨v7, rfl, h, hWS8, hXS8⟩ := hp
        obtain ⟨x12, ex12, h⟩ := wkLt_some h
        refine wk_iinc C (lv' := [some (.ref l0A), some (.ref l1A), none, none, some (.int x12)]) dX8_solveRoots_76 rfl (by rw [ex12]; rfl) (by decide) rfl ?_
        refine wk_goto C (tgt := 52) dX8_solveRoots_79 (by decide) ?_
        exact wk_forget (lv' := [some (.ref l0A), some (.ref l1A), none, none, some (.int x12)]) (wkLs.le ⟨rfl, rfl, rfl, trivial⟩) (ih _ _ hk10 hn11 _ _ _ _ hWS8 (wkExt.tr (wkExt.tr hE hXS3) hXS8) (hXS8 _ _ (hXS3 _ _ hl0A)) (hXS8 _ _ (hXS3 _ _ hl1A)) h)
set_option maxHeartbeats 4000000 in
set_option maxRecDepth 100000 in
theorem tX8_solveRoots {l : Launch} {g : wkG} {F : Nat} {k n : Nat}  {S : wPS} {l0A : Nat} {l1A : Nat} {Φ : (Unit → wPS → Prop)} (hW : wkWF S) (hl0A : wkIs S l0A 8) (hl1A : wkIs S l1A 3) (h : rX8_solveRoots F k n l0A l1A S Φ) : wkMet l g yX8_solveRoots wvX8_solveRoots 52 k n [.ref l0A, .ref l1A] S (fun v' S'' => ∃ v : Unit, v' = none ∧ Φ v S'' ∧ wkWF S'' ∧ wkExt S S'') := by
  refine wkMet_of (ret := none) (by decide) rfl (Nat.le_of_ble_eq_true rfl) (fun X hg C hR E => ?_)
  subst hg
  have hE : wkExt S S := wkExt.rf
  have hd : 52 ≤ 52 := Nat.le_refl _
  show wkGo l X 5 0 0 0 S [some (.ref l0A), some (.ref l1A), none, none, none] []
  have ih := tX8_solveRoots_go (F := F) C hR hd E F
  have h : rX8_solveRoots_s F k n (rX8_solveRoots_go F k n F) l0A l1A S Φ := h
  unfold rX8_solveRoots_s at h
  refine wk_aload_n C dX8_solveRoots_0 rfl rfl ?_
  refine wk_aload_n C dX8_solveRoots_1 rfl rfl ?_
  refine wk_callV C hR (As := [.ref l1A]) (cnt := 1) (tX8_buildChain (l := l) hW hl0A hl1A h) rfl (wkGoodV (List.mem_of_getElem? (i := 11) rfl) (List.mem_of_getElem? (i := 12) rfl) (List.mem_of_getElem? (i := 13) rfl) (List.mem_of_getElem? (i := 6) rfl) hbX8_solveRoots_X8_buildChain gdX8_buildChain) (Nat.le_trans (by decide : 4 + 1 ≤ 52) hd) (by decide) hl0A.1 (fun cy => wAt_8 cy _ hl0A.2) rfl ⟨by decide, by decide, by decide +kernel⟩ rfl rfl (Nat.le_of_ble_eq_true rfl) (Nat.zero_le _) (Nat.zero_le _) dX8_solveRoots_2 (fun v' S14 hp => ?_)
  obtain ⟨v13, rfl, h, hWS14, hXS14⟩ := hp
  refine wk_aload_n C dX8_solveRoots_5 rfl rfl ?_
  refine wk_iconst C (v := 0) dX8_solveRoots_6 (by decide) ?_
  refine wk_iconst C (v := 0) dX8_solveRoots_7 (by decide) ?_
  refine wk_callV C hR (As := [.int (0 : Int32), .int (0 : Int32)]) (cnt := 2) (tX8_rootsOfPart (l := l) hWS14 (hXS14 _ _ hl0A) h) rfl (wkGoodV (List.mem_of_getElem? (i := 14) rfl) (List.mem_of_getElem? (i := 15) rfl) (List.mem_of_getElem? (i := 16) rfl) (List.mem_of_getElem? (i := 6) rfl) hbX8_solveRoots_X8_rootsOfPart gdX8_rootsOfPart) (Nat.le_trans (by decide : 2 + 1 ≤ 52) hd) (by decide) (hXS14 _ _ hl0A).1 (fun cy => wAt_8 cy _ (hXS14 _ _ hl0A).2) rfl ⟨by decide, by decide, by decide +kernel⟩ rfl rfl (Nat.le_of_ble_eq_true rfl) (Nat.zero_le _) (Nat.zero_le _) dX8_solveRoots_8 (fun v' S19 hp => ?_)
  obtain ⟨v18, rfl, h, hWS19, hXS19⟩ := hp
  refine wk_istore_n C (lv' := [some (.ref l0A), some (.ref l1A), some (.int v18), none, none]) dX8_solveRoots_11 rfl (by decide) rfl ?_
  refine wk_iload_n C dX8_solveRoots_12 rfl rfl ?_
  refine wk_aload_n C dX8_solveRoots_13 rfl rfl ?_
  refine wk_get C (v := .int (gEntry_boundNow S19 l1A)) huX8_solveRoots_3 (hXS19 _ _ (hXS14 _ _ hl1A)).1 (fun cy => wAt_3 cy _ (hXS19 _ _ (hXS14 _ _ hl1A)).2) rfl 8 (by decide) (List.mem_of_getElem? (i := 17) rfl) rfl rfl dX8_solveRoots_14 ?_
  refine wk_icmp_lt C (tgt := 24) dX8_solveRoots_17 (by decide) (fun c23 => ?_) (fun c23 => ?_)
  · rw [if_pos c23] at h
    refine wk_iconst C (v := 0) dX8_solveRoots_24 (by decide) ?_
    refine wk_istore_n C (lv' := [some (.ref l0A), some (.ref l1A), some (.int v18), some (.int (0 : Int32)), none]) dX8_solveRoots_25 rfl (by decide) rfl ?_
    refine wk_aload_n C dX8_solveRoots_26 rfl rfl ?_
    refine wk_iload_n C dX8_solveRoots_27 rfl rfl ?_
    refine wk_iload_n C dX8_solveRoots_28 rfl rfl ?_
    refine wk_callV C hR (As := [.int (0 : Int32), .int v18]) (cnt := 2) (tX3_tell (l := l) hWS19 (hXS19 _ _ (hXS14 _ _ hl1A)) h) rfl (wkGoodV (List.mem_of_getElem? (i := 18) rfl) (List.mem_of_getElem? (i := 19) rfl) (List.mem_of_getElem? (i := 20) rfl) (List.mem_of_getElem? (i := 21) rfl) hbX8_solveRoots_X3_tell gdX3_tell) (Nat.le_trans (by decide : 0 + 1 ≤ 52) hd) (by decide) (hXS19 _ _ (hXS14 _ _ hl1A)).1 (fun cy => wAt_3 cy _ (hXS19 _ _ (hXS14 _ _ hl1A)).2) rfl ⟨by decide, by decide, by decide +kernel⟩ rfl rfl (Nat.le_of_ble_eq_true rfl) (Nat.zero_le _) (Nat.zero_le _) dX8_solveRoots_29 (fun v' S25 hp => ?_)
    obtain ⟨v24, rfl, h, hWS25, hXS25⟩ := hp
    refine wk_iload_n C dX8_solveRoots_32 rfl rfl ?_
    refine wk_if_eq C (tgt := 49) dX8_solveRoots_33 (by decide) (fun _ => ?_) (fun c => False.elim (by revert c; decide))
    refine wk_iconst C (v := 0) dX8_solveRoots_49 (by decide) ?_
    refine wk_istore C (lv' := [some (.ref l0A), some (.ref l1A), some (.int v18), some (.int (0 : Int32)), some (.int (0 : Int32))]) dX8_solveRoots_50 (by decide) rfl ?_
    exact wk_forget (lv' := [some (.ref l0A), some (.ref l1A), none, none, some (.int (0 : Int32))]) (wkLs.le ⟨rfl, rfl, rfl, trivial⟩) (ih _ _ (Nat.zero_le _) (Nat.zero_le _) _ _ _ _ hWS25 (wkExt.tr (wkExt.tr (wkExt.tr hE hXS14) hXS19) hXS25) (hXS25 _ _ (hXS19 _ _ (hXS14 _ _ hl0A))) (hXS25 _ _ (hXS19 _ _ (hXS14 _ _ hl1A))) h)
  · rw [if_neg c23] at h
    refine wk_iconst C (v := 1) dX8_solveRoots_20 (by decide) ?_
    refine wk_goto C (tgt := 25) dX8_solveRoots_21 (by decide) ?_
    refine wk_istore_n C (lv' := [some (.ref l0A), some (.ref l1A), some (.int v18), some (.int (1 : Int32)), none]) dX8_solveRoots_25 rfl (by decide) rfl ?_
    refine wk_aload_n C dX8_solveRoots_26 rfl rfl ?_
    refine wk_iload_n C dX8_solveRoots_27 rfl rfl ?_
    refine wk_iload_n C dX8_solveRoots_28 rfl rfl ?_
    refine wk_callV C hR (As := [.int (1 : Int32), .int v18]) (cnt := 2) (tX3_tell (l := l) hWS19 (hXS19 _ _ (hXS14 _ _ hl1A)) h) rfl (wkGoodV (List.mem_of_getElem? (i := 18) rfl) (List.mem_of_getElem? (i := 19) rfl) (List.mem_of_getElem? (i := 20) rfl) (List.mem_of_getElem? (i := 21) rfl) hbX8_solveRoots_X3_tell gdX3_tell) (Nat.le_trans (by decide : 0 + 1 ≤ 52) hd) (by decide) (hXS19 _ _ (hXS14 _ _ hl1A)).1 (fun cy => wAt_3 cy _ (hXS19 _ _ (hXS14 _ _ hl1A)).2) rfl ⟨by decide, by decide, by decide +kernel⟩ rfl rfl (Nat.le_of_ble_eq_true rfl) (Nat.zero_le _) (Nat.zero_le _) dX8_solveRoots_29 (fun v' S30 hp => ?_)
    obtain ⟨v29, rfl, h, hWS30, hXS30⟩ := hp
    refine wk_iload_n C dX8_solveRoots_32 rfl rfl ?_
    refine wk_if_eq C (tgt := 49) dX8_solveRoots_33 (by decide) (fun c => False.elim (by revert c; decide)) (fun _ => ?_)
    refine wk_aload_n C dX8_solveRoots_36 rfl rfl ?_
    refine wk_iconst C (v := 0) dX8_solveRoots_37 (by decide) ?_
    refine wk_iconst C (v := 0) dX8_solveRoots_38 (by decide) ?_
    refine wk_aload_n C dX8_solveRoots_39 rfl rfl ?_
    refine wk_get C huX8_solveRoots_3 (hXS30 _ _ (hXS19 _ _ (hXS14 _ _ hl1A))).1 (fun cy => wAt_3 cy _ (hXS30 _ _ (hXS19 _ _ (hXS14 _ _ hl1A))).2) rfl 13 (by decide) (List.mem_of_getElem? (i := 2) rfl) rfl (congrArg some (congrArg va_rf (wf_Entry_row hWS30 (hXS30 _ _ (hXS19 _ _ (hXS14 _ _ hl1A)))).1)) dX8_solveRoots_40 ?_
    obtain ⟨k37, n38, hk37, hn38, h⟩ := h
    refine wk_callV C hR (As := [.int (0 : Int32), .int (0 : Int32), .ref (wkAd (gEntry_row S30 l1A))]) (cnt := 3) (tX8_writeParts (l := l) hWS30 (hXS30 _ _ (hXS19 _ _ (hXS14 _ _ hl0A))) (wf_Entry_row hWS30 (hXS30 _ _ (hXS19 _ _ (hXS14 _ _ hl1A)))).2 h) rfl (wkGoodV (List.mem_of_getElem? (i := 22) rfl) (List.mem_of_getElem? (i := 23) rfl) (List.mem_of_getElem? (i := 24) rfl) (List.mem_of_getElem? (i := 6) rfl) hbX8_solveRoots_X8_writeParts gdX8_writeParts) (Nat.le_trans (by decide : 51 + 1 ≤ 52) hd) (by decide) (hXS30 _ _ (hXS19 _ _ (hXS14 _ _ hl0A))).1 (fun cy => wAt_8 cy _ (hXS30 _ _ (hXS19 _ _ (hXS14 _ _ hl0A))).2) rfl ⟨by decide, by decide, by decide +kernel⟩ rfl rfl (Nat.le_of_ble_eq_true rfl) hk37 hn38 dX8_solveRoots_43 (fun v' S35 hp => ?_)
    obtain ⟨v34, rfl, h, hWS35, hXS35⟩ := hp
    refine wk_goto C (tgt := 82) dX8_solveRoots_46 (by decide) ?_
    exact E _ _ _ _ _ hk37 hn38 dX8_solveRoots_82 ⟨(), rfl, h, hWS35, (wkExt.tr (wkExt.tr (wkExt.tr (wkExt.tr hE hXS14) hXS19) hXS30) hXS35)⟩
def wvX11_settleClaims : List Cond := .code yX11_settleClaims cX11_settleClaims 5 none :: (([.fieldLink RX11 395 "Witnessworks" "claimCount" "I", .fieldLink RX11 56 "Witnessworks" "claims" "[LWitnessworks$Claim;", .fieldLink RX11 406 "Witnessworks$Claim" "entry" "I", .fieldLink RX11 10 "Witnessworks" "house" "LWitnessworks$House;", .fieldLink RX11 18 "Witnessworks" "book" "[LWitnessworks$Entry;", .fieldLink RX11 412 "Witnessworks$Claim" "row" "LWitnessworks$Row;", .fieldLink RX11 409 "Witnessworks$Claim" "isWitness" "Z", .methodLink RX11 382 yX4_judge, .instanceMethod yX4_judge, .selects RX4 yX4_judge yX4_judge, .initialized RX4, .methodLink RX11 511 yX11_addError, .instanceMethod yX11_addError, .selects RX11 yX11_addError yX11_addError, .initialized RX11, .methodLink RX11 505 yX11_removeClaim, .instanceMethod yX11_removeClaim, .selects RX11 yX11_removeClaim yX11_removeClaim] : List Cond) ++ ((wsX110 ++ (wsX00)) ++ (wvX4_judge ++ (wvX11_addError ++ (wvX11_removeClaim)))))
theorem huX11_settleClaims_11 : ∀ w ∈ u_ws RX11 TX11 19, w ∈ wvX11_settleClaims := fun w h => List.mem_cons_of_mem _ (List.mem_append_right _ (List.mem_append_left _ (List.mem_append_left _ h)))
theorem huX11_settleClaims_0 : ∀ w ∈ u_ws RX0 TX0 4, w ∈ wvX11_settleClaims := fun w h => List.mem_cons_of_mem _ (List.mem_append_right _ (List.mem_append_left _ (List.mem_append_right _ h)))
theorem hbX11_settleClaims_X4_judge : ∀ w ∈ wvX4_judge, w ∈ wvX11_settleClaims := fun w h => List.mem_cons_of_mem _ (List.mem_append_right _ (List.mem_append_right _ (List.mem_append_left _ h)))
theorem hbX11_settleClaims_X11_addError : ∀ w ∈ wvX11_addError, w ∈ wvX11_settleClaims := fun w h => List.mem_cons_of_mem _ (List.mem_append_right _ (List.mem_append_right _ (List.mem_append_right _ (List.mem_append_left _ h))))
theorem hbX11_settleClaims_X11_removeClaim : ∀ w ∈ wvX11_removeClaim, w ∈ wvX11_settleClaims := fun w h => List.mem_cons_of_mem _ (List.mem_append_right _ (List.mem_append_right _ (List.mem_append_right _ (List.mem_append_right _ h))))
theorem gdX11_settleClaims : ∀ w ∈ wvX11_settleClaims, wkGd w := wkGdC rfl (wkGdA (wkGdL (by decide +kernel)) (wkGdA (wkGdA gdX11 gdX0) (wkGdA gdX4_judge (wkGdA gdX11_addError gdX11_removeClaim))))
def rX11_settleClaims_b0 (F : Nat) (k n : Nat) (rec : Nat → Nat → Nat → Nat → Int32 → Int32 → Int32 → wPS → (Unit → wPS → Prop) → Prop) (c s : Nat) (l0A : Nat) (l1I : Int32) (l2I : Int32) (l3I : Int32) (S : wPS) (Φ : (Unit → wPS → Prop)) : Prop :=
  if (16 : Int32) ≤ l3I then (Φ () S) else (if (gWitnessworks_claimCount S l0A) ≤ l2I then (Φ () S) else (¬ (l2I < 0 ∨ S.len (wkAd (gWitnessworks_claims S l0A)) ≤ (l2I).toNatClampNeg) ∧ if (gClaim_entry S (wkAd (S.rA (wkAd (gWitnessworks_claims S l0A)) (l2I).toNatClampNeg))) = l1I then (¬ (l1I < 0 ∨ S.len (wkAd (gWitnessworks_book S l0A)) ≤ (l1I).toNatClampNeg) ∧ ¬ (l2I < 0 ∨ S.len (wkAd (gWitnessworks_claims S l0A)) ≤ (l2I).toNatClampNeg) ∧ ¬ (l2I < 0 ∨ S.len (wkAd (gWitnessworks_claims S l0A)) ≤ (l2I).toNatClampNeg) ∧ rX4_judge F (wkAd (gWitnessworks_house S l0A)) (wkAd (S.rA (wkAd (gWitnessworks_book S l0A)) (l1I).toNatClampNeg)) (wkAd (gClaim_row S (wkAd (S.rA (wkAd (gWitnessworks_claims S l0A)) (l2I).toNatClampNeg)))) (gClaim_isWitness S (wkAd (S.rA (wkAd (gWitnessworks_claims S l0A)) (l2I).toNatClampNeg))) S fun v14 S15 => if v14 = 0 then (wkLt (l2I + (1 : Int32)) fun x20 => wkLt (l3I + (1 : Int32)) fun x21 => rec 0 c s l0A l1I x20 x21 S15 Φ) else (∃ k25 n26 : Nat, c + k25 ≤ k ∧ s + n26 ≤ n ∧ rX11_addError F k25 n26 l0A l1I (99 : Int32) v14 S15 fun v22 S23 => rX11_removeClaim F l0A l2I S23 fun v27 S28 => wkLt (l3I + (1 : Int32)) fun x32 => rec 0 (c + k25) (s + n26) l0A l1I l2I x32 S28 Φ)) else (wkLt (l2I + (1 : Int32)) fun x6 => wkLt (l3I + (1 : Int32)) fun x7 => rec 0 c s l0A l1I x6 x7 S Φ)))
def rX11_settleClaims_go (F : Nat) (k n : Nat) : Nat → Nat → Nat → Nat → Nat → Int32 → Int32 → Int32 → wPS → (Unit → wPS → Prop) → Prop
  | 0, _, _, _, _, _, _, _, _, _ => False
  | k' + 1, lab, c, s, l0A, l1I, l2I, l3I, S, Φ => if lab = 0 then rX11_settleClaims_b0 F k n (rX11_settleClaims_go F k n k') c s l0A l1I l2I l3I S Φ else False
def rX11_settleClaims_s (F : Nat) (k n : Nat) (rec : Nat → Nat → Nat → Nat → Int32 → Int32 → Int32 → wPS → (Unit → wPS → Prop) → Prop) (l0A : Nat) (l1I : Int32) (S : wPS) (Φ : (Unit → wPS → Prop)) : Prop :=
  rec 0 0 0 l0A l1I (0 : Int32) (0 : Int32) S Φ
def rX11_settleClaims (F : Nat) (k n : Nat) (l0A : Nat) (l1I : Int32) (S : wPS) (Φ : (Unit → wPS → Prop)) : Prop := rX11_settleClaims_s F k n (rX11_settleClaims_go F k n F) l0A l1I S Φ
set_option maxHeartbeats 4000000 in
set_option maxRecDepth 100000 in
theorem tX11_settleClaims_go {k n : Nat} {l : Launch} {X : wkX} {d F : Nat} {S0 : wPS} {Φ : (Unit → wPS → Prop)} (C : wkC X cX11_settleClaims RX11 5 wvX11_settleClaims) (hR : wkRm X d k n) (hd : 54 ≤ d) (E : wkEnd l X cX11_settleClaims 5 none k n (fun v' S'' => ∃ v : Unit, v' = none ∧ Φ v S'' ∧ wkWF S'' ∧ wkExt S0 S'')) : ∀ k' : Nat, (∀ (c s : Nat), c ≤ k → s ≤ n → ∀ (l0A : Nat) (l1I : Int32) (l2I : Int32) (l3I : Int32) (S : wPS), wkWF S → wkExt S0 S → wkIs S l0A 11 → rX11_settleClaims_go F k n k' 0 c s l0A l1I l2I l3I S Φ → wkGo l X 5 c s 4 S [some (.ref l0A), some (.int l1I), some (.int l2I), some (.int l3I), none] []) := by
  intro k'
  induction k' with
  | zero => exact fun c s hc hs l0A l1I l2I l3I S hW hE hl0A h => h.elim
  | succ k' ih =>
    · intro c s hc hs l0A l1I l2I l3I S hW hE hl0A h
      have h : rX11_settleClaims_b0 F k n (rX11_settleClaims_go F k n k') c s l0A l1I l2I l3I S Φ := by
        rw [rX11_settleClaims_go, if_pos (rfl : (0 : Nat) = 0)] at h
        exact h
      unfold rX11_settleClaims_b0 at h
      refine wk_iload_n C dX11_settleClaims_4 rfl rfl ?_
      refine wk_bipush C (v := 16) dX11_settleClaims_5 (by decide) ?_
      refine wk_icmp_ge C (tgt := 98) dX11_settleClaims_7 (by decide) (fun c1 => ?_) (fun c1 => ?_)
      · rw [if_pos c1] at h
        exact E _ _ _ _ _ hc hs dX11_settleClaims_98 ⟨(), rfl, h, hW, hE⟩
      · rw [if_neg c1] at h
        refine wk_iload_n C dX11_settleClaims_10 rfl rfl ?_
        refine wk_aload_n C dX11_settleClaims_11 rfl rfl ?_
        refine wk_get C (v := .int (gWitnessworks_claimCount S l0A)) huX11_settleClaims_11 hl0A.1 (fun cy => wAt_11 cy _ hl0A.2) rfl 15 (by decide) (List.mem_of_getElem? (i := 1) rfl) rfl rfl dX11_settleClaims_12 ?_
        refine wk_icmp_ge C (tgt := 98) dX11_settleClaims_15 (by decide) (fun c2 => ?_) (fun c2 => ?_)
        · rw [if_pos c2] at h
          exact E _ _ _ _ _ hc hs dX11_settleClaims_98 ⟨(), rfl, h, hW, hE⟩
        · rw [if_neg c2] at h
          refine wk_iconst C (v := 0) dX11_settleClaims_18 (by decide) ?_
          refine wk_istore C (lv' := [some (.ref l0A), some (.int l1I), some (.int l2I), some (.int l3I), some (.int (0 : Int32))]) dX11_settleClaims_19 (by decide) rfl ?_
          refine wk_aload_n C dX11_settleClaims_21 rfl rfl ?_
          refine wk_get C huX11_settleClaims_11 hl0A.1 (fun cy => wAt_11 cy _ hl0A.2) rfl 14 (by decide) (List.mem_of_getElem? (i := 2) rfl) rfl (congrArg some (congrArg va_rf (wf_Witnessworks_claims hW hl0A).1)) dX11_settleClaims_22 ?_
          refine wk_iload_n C dX11_settleClaims_25 rfl rfl ?_
          obtain ⟨i3, h⟩ := h
          have w4 := wf_RClaim hW (wf_Witnessworks_claims hW hl0A).2 (Nat.not_le.mp fun q => i3 (Or.inr q))
          refine wk_aaldClaim C (wf_Witnessworks_claims hW hl0A).2.1 (wf_Witnessworks_claims hW hl0A).2.2 i3 w4.1 dX11_settleClaims_26 ?_
          refine wk_get C (v := .int (gClaim_entry S (wkAd (S.rA (wkAd (gWitnessworks_claims S l0A)) (l2I).toNatClampNeg)))) huX11_settleClaims_0 w4.2.1 (fun cy => wAt_0 cy _ w4.2.2) rfl 1 (by decide) (List.mem_of_getElem? (i := 3) rfl) rfl rfl dX11_settleClaims_27 ?_
          refine wk_iload_n C dX11_settleClaims_30 rfl rfl ?_
          refine wk_icmp_ne C (tgt := 67) dX11_settleClaims_31 (by decide) (fun c5 => ?_) (fun c5 => ?_)
          · rw [if_neg c5] at h
            refine wk_iload C dX11_settleClaims_67 rfl ?_
            refine wk_if_eq C (tgt := 89) dX11_settleClaims_69 (by decide) (fun _ => ?_) (fun c => False.elim (by revert c; decide))
            obtain ⟨x6, ex6, h⟩ := wkLt_some h
            refine wk_iinc C (lv' := [some (.ref l0A), some (.int l1I), some (.int x6), some (.int l3I), some (.int (0 : Int32))]) dX11_settleClaims_89 rfl (by rw [ex6]; rfl) (by decide) rfl ?_
            obtain ⟨x7, ex7, h⟩ := wkLt_some h
            refine wk_iinc C (lv' := [some (.ref l0A), some (.int l1I), some (.int x6), some (.int x7), some (.int (0 : Int32))]) dX11_settleClaims_92 rfl (by rw [ex7]; rfl) (by decide) rfl ?_
            refine wk_goto C (tgt := 4) dX11_settleClaims_95 (by decide) ?_
            exact wk_forget (lv' := [some (.ref l0A), some (.int l1I), some (.int x6), some (.int x7), none]) (wkLs.le ⟨rfl, rfl, rfl, rfl, trivial⟩) (ih _ _ hc hs _ _ _ _ _ hW hE hl0A h)
          · rw [if_pos c5] at h
            refine wk_aload_n C dX11_settleClaims_34 rfl rfl ?_
            refine wk_get C huX11_settleClaims_11 hl0A.1 (fun cy => wAt_11 cy _ hl0A.2) rfl 0 (by decide) (List.mem_of_getElem? (i := 4) rfl) rfl (congrArg some (congrArg va_rf (wf_Witnessworks_house hW hl0A).1)) dX11_settleClaims_35 ?_
            refine wk_aload_n C dX11_settleClaims_38 rfl rfl ?_
            refine wk_get C huX11_settleClaims_11 hl0A.1 (fun cy => wAt_11 cy _ hl0A.2) rfl 1 (by decide) (List.mem_of_getElem? (i := 5) rfl) rfl (congrArg some (congrArg va_rf (wf_Witnessworks_book hW hl0A).1)) dX11_settleClaims_39 ?_
            refine wk_iload_n C dX11_settleClaims_42 rfl rfl ?_
            obtain ⟨i8, h⟩ := h
            have w9 := wf_REntry hW (wf_Witnessworks_book hW hl0A).2 (Nat.not_le.mp fun q => i8 (Or.inr q))
            refine wk_aaldEntry C (wf_Witnessworks_book hW hl0A).2.1 (wf_Witnessworks_book hW hl0A).2.2 i8 w9.1 dX11_settleClaims_43 ?_
            refine wk_aload_n C dX11_settleClaims_44 rfl rfl ?_
            refine wk_get C huX11_settleClaims_11 hl0A.1 (fun cy => wAt_11 cy _ hl0A.2) rfl 14 (by decide) (List.mem_of_getElem? (i := 2) rfl) rfl (congrArg some (congrArg va_rf (wf_Witnessworks_claims hW hl0A).1)) dX11_settleClaims_45 ?_
            refine wk_iload_n C dX11_settleClaims_48 rfl rfl ?_
            obtain ⟨i10, h⟩ := h
            have w11 := wf_RClaim hW (wf_Witnessworks_claims hW hl0A).2 (Nat.not_le.mp fun q => i10 (Or.inr q))
            refine wk_aaldClaim C (wf_Witnessworks_claims hW hl0A).2.1 (wf_Witnessworks_claims hW hl0A).2.2 i10 w11.1 dX11_settleClaims_49 ?_
            refine wk_get C huX11_settleClaims_0 w11.2.1 (fun cy => wAt_0 cy _ w11.2.2) rfl 3 (by decide) (List.mem_of_getElem? (i := 6) rfl) rfl (congrArg some (congrArg va_rf (wf_Claim_row hW w11.2).1)) dX11_settleClaims_50 ?_
            refine wk_aload_n C dX11_settleClaims_53 rfl rfl ?_
            refine wk_get C huX11_settleClaims_11 hl0A.1 (fun cy => wAt_11 cy _ hl0A.2) rfl 14 (by decide) (List.mem_of_getElem? (i := 2) rfl) rfl (congrArg some (congrArg va_rf (wf_Witnessworks_claims hW hl0A).1)) dX11_settleClaims_54 ?_
            refine wk_iload_n C dX11_settleClaims_57 rfl rfl ?_
            obtain ⟨i12, h⟩ := h
            have w13 := wf_RClaim hW (wf_Witnessworks_claims hW hl0A).2 (Nat.not_le.mp fun q => i12 (Or.inr q))
            refine wk_aaldClaim C (wf_Witnessworks_claims hW hl0A).2.1 (wf_Witnessworks_claims hW hl0A).2.2 i12 w13.1 dX11_settleClaims_58 ?_
            refine wk_get C (v := .int (gClaim_isWitness S (wkAd (S.rA (wkAd (gWitnessworks_claims S l0A)) (l2I).toNatClampNeg)))) huX11_settleClaims_0 w13.2.1 (fun cy => wAt_0 cy _ w13.2.2) rfl 2 (by decide) (List.mem_of_getElem? (i := 7) rfl) rfl rfl dX11_settleClaims_59 ?_
            refine wk_callV C hR (As := [.ref (wkAd (S.rA (wkAd (gWitnessworks_book S l0A)) (l1I).toNatClampNeg)), .ref (wkAd (gClaim_row S (wkAd (S.rA (wkAd (gWitnessworks_claims S l0A)) (l2I).toNatClampNeg)))), .int (gClaim_isWitness S (wkAd (S.rA (wkAd (gWitnessworks_claims S l0A)) (l2I).toNatClampNeg)))]) (cnt := 3) (tX4_judge (l := l) hW (wf_Witnessworks_house hW hl0A).2 w9.2 (wf_Claim_row hW w11.2).2 h) rfl (wkGoodV (List.mem_of_getElem? (i := 8) rfl) (List.mem_of_getElem? (i := 9) rfl) (List.mem_of_getElem? (i := 10) rfl) (List.mem_of_getElem? (i := 11) rfl) hbX11_settleClaims_X4_judge gdX4_judge) (Nat.le_trans (by decide : 53 + 1 ≤ 54) hd) (by decide) (wf_Witnessworks_house hW hl0A).2.1 (fun cy => wAt_4 cy _ (wf_Witnessworks_house hW hl0A).2.2) rfl ⟨by decide, by decide, by decide +kernel⟩ rfl rfl (Nat.le_of_ble_eq_true rfl) hc hs dX11_settleClaims_62 (fun v' S15 hp => ?_)
            obtain ⟨v14, rfl, h, hWS15, hXS15⟩ := hp
            refine wk_istore C (lv' := [some (.ref l0A), some (.int l1I), some (.int l2I), some (.int l3I), some (.int v14)]) dX11_settleClaims_65 (by decide) rfl ?_
            refine wk_iload C dX11_settleClaims_67 rfl ?_
            refine wk_if_eq C (tgt := 89) dX11_settleClaims_69 (by decide) (fun c19 => ?_) (fun c19 => ?_)
            · rw [if_pos c19] at h
              obtain ⟨x20, ex20, h⟩ := wkLt_some h
              refine wk_iinc C (lv' := [some (.ref l0A), some (.int l1I), some (.int x20), some (.int l3I), some (.int v14)]) dX11_settleClaims_89 rfl (by rw [ex20]; rfl) (by decide) rfl ?_
              obtain ⟨x21, ex21, h⟩ := wkLt_some h
              refine wk_iinc C (lv' := [some (.ref l0A), some (.int l1I), some (.int x20), some (.int x21), some (.int v14)]) dX11_settleClaims_92 rfl (by rw [ex21]; rfl) (by decide) rfl ?_
              refine wk_goto C (tgt := 4) dX11_settleClaims_95 (by decide) ?_
              exact wk_forget (lv' := [some (.ref l0A), some (.int l1I), some (.int x20), some (.int x21), none]) (wkLs.le ⟨rfl, rfl, rfl, rfl, trivial⟩) (ih _ _ hc hs _ _ _ _ _ hWS15 (wkExt.tr hE hXS15) (hXS15 _ _ hl0A) h)
            · rw [if_neg c19] at h
              refine wk_aload_n C dX11_settleClaims_72 rfl rfl ?_
              refine wk_iload_n C dX11_settleClaims_73 rfl rfl ?_
              refine wk_bipush C (v := 99) dX11_settleClaims_74 (by decide) ?_
              refine wk_iload C dX11_settleClaims_76 rfl ?_
              obtain ⟨k25, n26, hk25, hn26, h⟩ := h
              refine wk_callV C hR (As := [.int l1I, .int (99 : Int32), .int v14]) (cnt := 3) (tX11_addError (l := l) hWS15 (hXS15 _ _ hl0A) h) rfl (wkGoodV (List.mem_of_getElem? (i := 12) rfl) (List.mem_of_getElem? (i := 13) rfl) (List.mem_of_getElem? (i := 14) rfl) (List.mem_of_getElem? (i := 15) rfl) hbX11_settleClaims_X11_addError gdX11_addError) (Nat.le_trans (by decide : 2 + 1 ≤ 54) hd) (by decide) (hXS15 _ _ hl0A).1 (fun cy => wAt_11 cy _ (hXS15 _ _ hl0A).2) rfl ⟨by decide, by decide, by decide +kernel⟩ rfl rfl (Nat.le_of_ble_eq_true rfl) hk25 hn26 dX11_settleClaims_78 (fun v' S23 hp => ?_)
              obtain ⟨v22, rfl, h, hWS23, hXS23⟩ := hp
              refine wk_aload_n C dX11_settleClaims_81 rfl rfl ?_
              refine wk_iload_n C dX11_settleClaims_82 rfl rfl ?_
              refine wk_callV C hR (As := [.int l2I]) (cnt := 1) (tX11_removeClaim (l := l) hWS23 (hXS23 _ _ (hXS15 _ _ hl0A)) h) rfl (wkGoodV (List.mem_of_getElem? (i := 16) rfl) (List.mem_of_getElem? (i := 17) rfl) (List.mem_of_getElem? (i := 18) rfl) (List.mem_of_getElem? (i := 15) rfl) hbX11_settleClaims_X11_removeClaim gdX11_removeClaim) (Nat.le_trans (by decide : 0 + 1 ≤ 54) hd) (by decide) (hXS23 _ _ (hXS15 _ _ hl0A)).1 (fun cy => wAt_11 cy _ (hXS23 _ _ (hXS15 _ _ hl0A)).2) rfl ⟨by decide, by decide, by decide +kernel⟩ rfl rfl (Nat.le_of_ble_eq_true rfl) hk25 hn26 dX11_settleClaims_83 (fun v' S28 hp => ?_)
              obtain ⟨v27, rfl, h, hWS28, hXS28⟩ := hp
              refine wk_goto C (tgt := 92) dX11_settleClaims_86 (by decide) ?_
              obtain ⟨x32, ex32, h⟩ := wkLt_some h
              refine wk_iinc C (lv' := [some (.ref l0A), some (.int l1I), some (.int l2I), some (.int x32), some (.int v14)]) dX11_settleClaims_92 rfl (by rw [ex32]; rfl) (by decide) rfl ?_
              refine wk_goto C (tgt := 4) dX11_settleClaims_95 (by decide) ?_
              exact wk_forget (lv' := [some (.ref l0A), some (.int l1I), some (.int l2I), some (.int x32), none]) (wkLs.le ⟨rfl, rfl, rfl, rfl, trivial⟩) (ih _ _ hk25 hn26 _ _ _ _ _ hWS28 (wkExt.tr (wkExt.tr (wkExt.tr hE hXS15) hXS23) hXS28) (hXS28 _ _ (hXS23 _ _ (hXS15 _ _ hl0A))) h)
set_option maxHeartbeats 4000000 in
set_option maxRecDepth 100000 in
theorem tX11_settleClaims {l : Launch} {g : wkG} {F : Nat} {k n : Nat}  {S : wPS} {l0A : Nat} {l1I : Int32} {Φ : (Unit → wPS → Prop)} (hW : wkWF S) (hl0A : wkIs S l0A 11) (h : rX11_settleClaims F k n l0A l1I S Φ) : wkMet l g yX11_settleClaims wvX11_settleClaims 54 k n [.ref l0A, .int l1I] S (fun v' S'' => ∃ v : Unit, v' = none ∧ Φ v S'' ∧ wkWF S'' ∧ wkExt S S'') := by
  refine wkMet_of (ret := none) (by decide) rfl (Nat.le_of_ble_eq_true rfl) (fun X hg C hR E => ?_)
  subst hg
  have hE : wkExt S S := wkExt.rf
  have hd : 54 ≤ 54 := Nat.le_refl _
  show wkGo l X 5 0 0 0 S [some (.ref l0A), some (.int l1I), none, none, none] []
  have ih := tX11_settleClaims_go (F := F) C hR hd E F
  have h : rX11_settleClaims_s F k n (rX11_settleClaims_go F k n F) l0A l1I S Φ := h
  unfold rX11_settleClaims_s at h
  refine wk_iconst C (v := 0) dX11_settleClaims_0 (by decide) ?_
  refine wk_istore_n C (lv' := [some (.ref l0A), some (.int l1I), some (.int (0 : Int32)), none, none]) dX11_settleClaims_1 rfl (by decide) rfl ?_
  refine wk_iconst C (v := 0) dX11_settleClaims_2 (by decide) ?_
  refine wk_istore_n C (lv' := [some (.ref l0A), some (.int l1I), some (.int (0 : Int32)), some (.int (0 : Int32)), none]) dX11_settleClaims_3 rfl (by decide) rfl ?_
  exact wk_forget (lv' := [some (.ref l0A), some (.int l1I), some (.int (0 : Int32)), some (.int (0 : Int32)), none]) (wkLs.le ⟨rfl, rfl, rfl, rfl, trivial⟩) (ih _ _ (Nat.zero_le _) (Nat.zero_le _) _ _ _ _ _ hW hE hl0A h)
