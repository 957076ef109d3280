def wvX2_writeCore : List Cond := .code yX2_writeCore cX2_writeCore 5 none :: (([.methodLink RX2 38 yX2_loadEdges, .instanceMethod yX2_loadEdges, .selects RX2 yX2_loadEdges yX2_loadEdges, .initialized RX2, .fieldLink RX2 50 "Witnessworks$Entry" "row" "LWitnessworks$Row;", .methodLink RX2 125 yX2_countBranches, .instanceMethod yX2_countBranches, .selects RX2 yX2_countBranches yX2_countBranches, .methodLink RX2 56 yX9_add, .instanceMethod yX9_add, .selects RX9 yX9_add yX9_add, .initialized RX9, .static yX11_has, .initialized RX11, .methodLink RX2 42 yX2_fillsFrom, .instanceMethod yX2_fillsFrom, .selects RX2 yX2_fillsFrom yX2_fillsFrom, .fieldLink RX2 79 "Witnessworks$Entry" "itemCount" "I"] : List Cond) ++ ((wsX30) ++ (wvX2_loadEdges ++ (wvX2_countBranches ++ (wvX9_add ++ (wvX11_has ++ (wvX2_fillsFrom)))))))
theorem huX2_writeCore_3 : ∀ w ∈ u_ws RX3 TX3 17, w ∈ wvX2_writeCore := fun w h => List.mem_cons_of_mem _ (List.mem_append_right _ (List.mem_append_left _ h))
theorem hbX2_writeCore_X2_loadEdges : ∀ w ∈ wvX2_loadEdges, w ∈ wvX2_writeCore := fun w h => List.mem_cons_of_mem _ (List.mem_append_right _ (List.mem_append_right _ (List.mem_append_left _ h)))
theorem hbX2_writeCore_X2_countBranches : ∀ w ∈ wvX2_countBranches, w ∈ wvX2_writeCore := fun w h => List.mem_cons_of_mem _ (List.mem_append_right _ (List.mem_append_right _ (List.mem_append_right _ (List.mem_append_left _ h))))
theorem hbX2_writeCore_X9_add : ∀ w ∈ wvX9_add, w ∈ wvX2_writeCore := fun w h => List.mem_cons_of_mem _ (List.mem_append_right _ (List.mem_append_right _ (List.mem_append_right _ (List.mem_append_right _ (List.mem_append_left _ h)))))
theorem hbX2_writeCore_X11_has : ∀ w ∈ wvX11_has, w ∈ wvX2_writeCore := fun w h => List.mem_cons_of_mem _ (List.mem_append_right _ (List.mem_append_right _ (List.mem_append_right _ (List.mem_append_right _ (List.mem_append_right _ (List.mem_append_left _ h))))))
theorem hbX2_writeCore_X2_fillsFrom : ∀ w ∈ wvX2_fillsFrom, w ∈ wvX2_writeCore := fun w h => List.mem_cons_of_mem _ (List.mem_append_right _ (List.mem_append_right _ (List.mem_append_right _ (List.mem_append_right _ (List.mem_append_right _ (List.mem_append_right _ h))))))
theorem gdX2_writeCore : ∀ w ∈ wvX2_writeCore, wkGd w := wkGdC rfl (wkGdA (wkGdL (by decide +kernel)) (wkGdA gdX3 (wkGdA gdX2_loadEdges (wkGdA gdX2_countBranches (wkGdA gdX9_add (wkGdA gdX11_has gdX2_fillsFrom))))))
def rX2_writeCore_b0 (F : Nat) (k n : Nat) (rec : Nat → Nat → Nat → Nat → Nat → Int32 → Int32 → wPS → (Unit → wPS → Prop) → Prop) (c s : Nat) (l0A : Nat) (l1A : Nat) (l3I : Int32) (l4I : Int32) (S : wPS) (Φ : (Unit → wPS → Prop)) : Prop :=
  if l4I < 0 then (rX2_loadEdges F l0A l1A l3I S fun v2 S3 => rX2_countBranches F l0A (2 : Int32) S3 fun v7 S8 => if v7 = (5 : Int32) then (∃ k21 n22 : Nat, c + k21 ≤ k ∧ s + n22 ≤ n ∧ rX9_add F k21 n22 (wkAd (gEntry_row S3 l1A)) (5 : Int32) S8 fun v18 S19 => rec 1 (c + k21) (s + n22) 0 l1A l3I (0 : Int32) S19 Φ) else (∃ k16 n17 : Nat, c + k16 ≤ k ∧ s + n17 ≤ n ∧ rX9_add F k16 n17 (wkAd (gEntry_row S3 l1A)) (3 : Int32) S8 fun v13 S14 => rec 1 (c + k16) (s + n17) 0 l1A l3I (0 : Int32) S14 Φ)) else (rX11_has F l3I l4I S fun v23 S24 => if v23 = 0 then (wkLt (l4I + (-1 : Int32)) fun x29 => rec 0 c s l0A l1A l3I x29 S24 Φ) else (rX2_loadEdges F l0A l1A (l3I &&& (((1 : Int32) <<< (l4I &&& 31)) ^^^ (-1 : Int32))) S24 fun v30 S31 => rX2_fillsFrom F 48 l0A (0 : Int32) S31 fun v35 S36 => if v35 = 0 then (wkLt ((l3I &&& (((1 : Int32) <<< (l4I &&& 31)) ^^^ (-1 : Int32)))) fun x42 => wkLt (l4I + (-1 : Int32)) fun x43 => rec 0 c s l0A l1A x42 x43 S36 Φ) else (wkLt (l4I + (-1 : Int32)) fun x41 => rec 0 c s l0A l1A l3I x41 S36 Φ)))
def rX2_writeCore_b1 (F : Nat) (k n : Nat) (rec : Nat → Nat → Nat → Nat → Nat → Int32 → Int32 → wPS → (Unit → wPS → Prop) → Prop) (c s : Nat) (l1A : Nat) (l3I : Int32) (l4I : Int32) (S : wPS) (Φ : (Unit → wPS → Prop)) : Prop :=
  if (gEntry_itemCount S l1A) ≤ l4I then (Φ () S) else (rX11_has F l3I l4I S fun v45 S46 => if v45 = 0 then (wkLt (l4I + (1 : Int32)) fun x51 => rec 1 c s 0 l1A l3I x51 S46 Φ) else (∃ k55 n56 : Nat, c + k55 ≤ k ∧ s + n56 ≤ n ∧ rX9_add F k55 n56 (wkAd (gEntry_row S46 l1A)) l4I S46 fun v52 S53 => wkLt (l4I + (1 : Int32)) fun x57 => rec 1 (c + k55) (s + n56) 0 l1A l3I x57 S53 Φ))
def rX2_writeCore_go (F : Nat) (k n : Nat) : Nat → Nat → Nat → Nat → Nat → Nat → Int32 → Int32 → wPS → (Unit → wPS → Prop) → Prop
  | 0, _, _, _, _, _, _, _, _, _ => False
  | k' + 1, lab, c, s, l0A, l1A, l3I, l4I, S, Φ => if lab = 0 then rX2_writeCore_b0 F k n (rX2_writeCore_go F k n k') c s l0A l1A l3I l4I S Φ else if lab = 1 then rX2_writeCore_b1 F k n (rX2_writeCore_go F k n k') c s l1A l3I l4I S Φ else False
def rX2_writeCore_s (F : Nat) (k n : Nat) (rec : Nat → Nat → Nat → Nat → Nat → Int32 → Int32 → wPS → (Unit → wPS → Prop) → Prop) (l0A : Nat) (l1A : Nat) (l2I : Int32) (S : wPS) (Φ : (Unit → wPS → Prop)) : Prop :=
  wkLt (((gEntry_itemCount S l1A) - (1 : Int32))) fun x58 => rec 0 0 0 l0A l1A l2I x58 S Φ
def rX2_writeCore (F : Nat) (k n : Nat) (l0A : Nat) (l1A : Nat) (l2I : Int32) (S : wPS) (Φ : (Unit → wPS → Prop)) : Prop := rX2_writeCore_s F k n (rX2_writeCore_go F k n F) l0A l1A l2I S Φ
set_option maxHeartbeats 4000000 in
set_option maxRecDepth 100000 in
theorem tX2_writeCore_go {k n : Nat} {l : Launch} {X : wkX} {d F : Nat} {S0 : wPS} {Φ : (Unit → wPS → Prop)} (C : wkC X cX2_writeCore RX2 5 wvX2_writeCore) (hR : wkRm X d k n) (hd : 52 ≤ d) (E : wkEnd l X cX2_writeCore 5 none k n (fun v' S'' => ∃ v : Unit, v' = none ∧ Φ v S'' ∧ wkWF S'' ∧ wkExt S0 S'')) : ∀ k' : Nat, (∀ (c s : Nat), c ≤ k → s ≤ n → ∀ (l0A : Nat) (l1A : Nat) (l3I : Int32) (l4I : Int32) (S : wPS), wkWF S → wkExt S0 S → wkIs S l0A 2 → wkIs S l1A 3 → rX2_writeCore_go F k n k' 0 c s l0A l1A l3I l4I S Φ → wkGo l X 5 c s 10 S [some (.ref l0A), some (.ref l1A), none, some (.int l3I), some (.int l4I)] []) ∧ (∀ (c s : Nat), c ≤ k → s ≤ n → ∀ (l1A : Nat) (l3I : Int32) (l4I : Int32) (S : wPS), wkWF S → wkExt S0 S → wkIs S l1A 3 → rX2_writeCore_go F k n k' 1 c s 0 l1A l3I l4I S Φ → wkGo l X 5 c s 90 S [none, some (.ref l1A), none, some (.int l3I), some (.int l4I)] []) := by
  intro k'
  induction k' with
  | zero => exact ⟨fun c s hc hs l0A l1A l3I l4I S hW hE hl0A hl1A h => h.elim, fun c s hc hs l1A l3I l4I S hW hE hl1A h => h.elim⟩
  | succ k' ih =>
    refine ⟨?_, ?_⟩
    · intro c s hc hs l0A l1A l3I l4I S hW hE hl0A hl1A h
      have h : rX2_writeCore_b0 F k n (rX2_writeCore_go F k n k') c s l0A l1A l3I l4I S Φ := by
        rw [rX2_writeCore_go, if_pos (rfl : (0 : Nat) = 0)] at h
        exact h
      unfold rX2_writeCore_b0 at h
      refine wk_iload C dX2_writeCore_10 rfl ?_
      refine wk_if_lt C (tgt := 60) dX2_writeCore_12 (by decide) (fun c1 => ?_) (fun c1 => ?_)
      · rw [if_pos c1] at h
        refine wk_aload_n C dX2_writeCore_60 rfl rfl ?_
        refine wk_aload_n C dX2_writeCore_61 rfl rfl ?_
        refine wk_iload_n C dX2_writeCore_62 rfl rfl ?_
        refine wk_callV C hR (As := [.ref l1A, .int l3I]) (cnt := 2) (tX2_loadEdges (l := l) hW hl0A hl1A h) rfl (wkGoodV (List.mem_of_getElem? (i := 1) rfl) (List.mem_of_getElem? (i := 2) rfl) (List.mem_of_getElem? (i := 3) rfl) (List.mem_of_getElem? (i := 4) rfl) hbX2_writeCore_X2_loadEdges gdX2_loadEdges) (Nat.le_trans (by decide : 2 + 1 ≤ 52) hd) (by decide) hl0A.1 (fun cy => wAt_2 cy _ hl0A.2) rfl ⟨by decide, by decide, by decide +kernel⟩ rfl rfl (Nat.le_of_ble_eq_true rfl) hc hs dX2_writeCore_63 (fun v' S3 hp => ?_)
        obtain ⟨v2, rfl, h, hWS3, hXS3⟩ := hp
        refine wk_aload_n C dX2_writeCore_66 rfl rfl ?_
        refine wk_get C huX2_writeCore_3 (hXS3 _ _ hl1A).1 (fun cy => wAt_3 cy _ (hXS3 _ _ hl1A).2) rfl 13 (by decide) (List.mem_of_getElem? (i := 5) rfl) rfl (congrArg some (congrArg va_rf (wf_Entry_row hWS3 (hXS3 _ _ hl1A)).1)) dX2_writeCore_67 ?_
        refine wk_aload_n C dX2_writeCore_70 rfl rfl ?_
        refine wk_iconst C (v := 2) dX2_writeCore_71 (by decide) ?_
        refine wk_callV C hR (As := [.int (2 : Int32)]) (cnt := 1) (tX2_countBranches (l := l) hWS3 (hXS3 _ _ hl0A) h) rfl (wkGoodV (List.mem_of_getElem? (i := 6) rfl) (List.mem_of_getElem? (i := 7) rfl) (List.mem_of_getElem? (i := 8) rfl) (List.mem_of_getElem? (i := 4) rfl) hbX2_writeCore_X2_countBranches gdX2_countBranches) (Nat.le_trans (by decide : 1 + 1 ≤ 52) hd) (by decide) (hXS3 _ _ hl0A).1 (fun cy => wAt_2 cy _ (hXS3 _ _ hl0A).2) rfl ⟨by decide, by decide, by decide +kernel⟩ rfl rfl (Nat.le_of_ble_eq_true rfl) hc hs dX2_writeCore_72 (fun v' S8 hp => ?_)
        obtain ⟨v7, rfl, h, hWS8, hXS8⟩ := hp
        refine wk_iconst C (v := 5) dX2_writeCore_75 (by decide) ?_
        refine wk_icmp_ne C (tgt := 83) dX2_writeCore_76 (by decide) (fun c12 => ?_) (fun c12 => ?_)
        · rw [if_neg c12] at h
          refine wk_iconst C (v := 3) dX2_writeCore_83 (by decide) ?_
          obtain ⟨k16, n17, hk16, hn17, h⟩ := h
          refine wk_callV C hR (As := [.int (3 : Int32)]) (cnt := 1) (tX9_add (l := l) hWS8 (hXS8 _ _ (wf_Entry_row hWS3 (hXS3 _ _ hl1A)).2) h) rfl (wkGoodV (List.mem_of_getElem? (i := 9) rfl) (List.mem_of_getElem? (i := 10) rfl) (List.mem_of_getElem? (i := 11) rfl) (List.mem_of_getElem? (i := 12) rfl) hbX2_writeCore_X9_add gdX9_add) (Nat.le_trans (by decide : 2 + 1 ≤ 52) hd) (by decide) (hXS8 _ _ (wf_Entry_row hWS3 (hXS3 _ _ hl1A)).2).1 (fun cy => wAt_9 cy _ (hXS8 _ _ (wf_Entry_row hWS3 (hXS3 _ _ hl1A)).2).2) rfl ⟨by decide, by decide, by decide +kernel⟩ rfl rfl (Nat.le_of_ble_eq_true rfl) hk16 hn17 dX2_writeCore_84 (fun v' S14 hp => ?_)
          obtain ⟨v13, rfl, h, hWS14, hXS14⟩ := hp
          refine wk_iconst C (v := 0) dX2_writeCore_87 (by decide) ?_
          refine wk_istore C (lv' := [some (.ref l0A), some (.ref l1A), none, some (.int l3I), some (.int (0 : Int32))]) dX2_writeCore_88 (by decide) rfl ?_
          exact wk_forget (lv' := [none, some (.ref l1A), none, some (.int l3I), some (.int (0 : Int32))]) (wkLs.le ⟨rfl, rfl, rfl, trivial⟩) (ih.2 _ _ hk16 hn17 _ _ _ _ hWS14 (wkExt.tr (wkExt.tr (wkExt.tr hE hXS3) hXS8) hXS14) (hXS14 _ _ (hXS8 _ _ (hXS3 _ _ hl1A))) h)
        · rw [if_pos c12] at h
          refine wk_iconst C (v := 5) dX2_writeCore_79 (by decide) ?_
          refine wk_goto C (tgt := 84) dX2_writeCore_80 (by decide) ?_
          obtain ⟨k21, n22, hk21, hn22, h⟩ := h
          refine wk_callV C hR (As := [.int (5 : Int32)]) (cnt := 1) (tX9_add (l := l) hWS8 (hXS8 _ _ (wf_Entry_row hWS3 (hXS3 _ _ hl1A)).2) h) rfl (wkGoodV (List.mem_of_getElem? (i := 9) rfl) (List.mem_of_getElem? (i := 10) rfl) (List.mem_of_getElem? (i := 11) rfl) (List.mem_of_getElem? (i := 12) rfl) hbX2_writeCore_X9_add gdX9_add) (Nat.le_trans (by decide : 2 + 1 ≤ 52) hd) (by decide) (hXS8 _ _ (wf_Entry_row hWS3 (hXS3 _ _ hl1A)).2).1 (fun cy => wAt_9 cy _ (hXS8 _ _ (wf_Entry_row hWS3 (hXS3 _ _ hl1A)).2).2) rfl ⟨by decide, by decide, by decide +kernel⟩ rfl rfl (Nat.le_of_ble_eq_true rfl) hk21 hn22 dX2_writeCore_84 (fun v' S19 hp => ?_)
          obtain ⟨v18, rfl, h, hWS19, hXS19⟩ := hp
          refine wk_iconst C (v := 0) dX2_writeCore_87 (by decide) ?_
          refine wk_istore C (lv' := [some (.ref l0A), some (.ref l1A), none, some (.int l3I), some (.int (0 : Int32))]) dX2_writeCore_88 (by decide) rfl ?_
          exact wk_forget (lv' := [none, some (.ref l1A), none, some (.int l3I), some (.int (0 : Int32))]) (wkLs.le ⟨rfl, rfl, rfl, trivial⟩) (ih.2 _ _ hk21 hn22 _ _ _ _ hWS19 (wkExt.tr (wkExt.tr (wkExt.tr hE hXS3) hXS8) hXS19) (hXS19 _ _ (hXS8 _ _ (hXS3 _ _ hl1A))) h)
      · rw [if_neg c1] at h
        refine wk_iload_n C dX2_writeCore_15 rfl rfl ?_
        refine wk_iload C dX2_writeCore_16 rfl ?_
        refine wk_callN C hR (y := yX11_has) (host := "Witnessworks") (As := [.int l3I, .int l4I]) (cnt := 2) (tX11_has (l := l) hW  h) rfl (fun w h => ⟨hbX2_writeCore_X11_has w h, gdX11_has w h⟩) (by decide +kernel) (List.mem_of_getElem? (i := 13) rfl) (List.mem_of_getElem? (i := 14) rfl) (Nat.le_trans (by decide : 0 + 1 ≤ 52) hd) (by decide) ⟨by decide, by decide, by decide +kernel⟩ rfl rfl (Nat.le_of_ble_eq_true rfl) hc hs dX2_writeCore_18 (fun v' S24 hp => ?_)
        obtain ⟨v23, rfl, h, hWS24, hXS24⟩ := hp
        refine wk_if_eq C (tgt := 54) dX2_writeCore_21 (by decide) (fun c28 => ?_) (fun c28 => ?_)
        · rw [if_pos c28] at h
          obtain ⟨x29, ex29, h⟩ := wkLt_some h
          refine wk_iinc C (lv' := [some (.ref l0A), some (.ref l1A), none, some (.int l3I), some (.int x29)]) dX2_writeCore_54 rfl (by rw [ex29]; rfl) (by decide) rfl ?_
          refine wk_goto C (tgt := 10) dX2_writeCore_57 (by decide) ?_
          exact wk_forget (lv' := [some (.ref l0A), some (.ref l1A), none, some (.int l3I), some (.int x29)]) (wkLs.le ⟨rfl, rfl, rfl, rfl, trivial⟩) (ih.1 _ _ hc hs _ _ _ _ _ hWS24 (wkExt.tr hE hXS24) (hXS24 _ _ hl0A) (hXS24 _ _ hl1A) h)
        · rw [if_neg c28] at h
          refine wk_aload_n C dX2_writeCore_24 rfl rfl ?_
          refine wk_aload_n C dX2_writeCore_25 rfl rfl ?_
          refine wk_iload_n C dX2_writeCore_26 rfl rfl ?_
          refine wk_iconst C (v := 1) dX2_writeCore_27 (by decide) ?_
          refine wk_iload C dX2_writeCore_28 rfl ?_
          refine wk_ishl C dX2_writeCore_30 rfl ?_
          refine wk_iconst C (v := (-1)) dX2_writeCore_31 (by decide) ?_
          refine wk_ixor C dX2_writeCore_32 rfl ?_
          refine wk_iand C dX2_writeCore_33 rfl ?_
          refine wk_callV C hR (As := [.ref l1A, .int (l3I &&& (((1 : Int32) <<< (l4I &&& 31)) ^^^ (-1 : Int32)))]) (cnt := 2) (tX2_loadEdges (l := l) hWS24 (hXS24 _ _ hl0A) (hXS24 _ _ hl1A) h) rfl (wkGoodV (List.mem_of_getElem? (i := 1) rfl) (List.mem_of_getElem? (i := 2) rfl) (List.mem_of_getElem? (i := 3) rfl) (List.mem_of_getElem? (i := 4) rfl) hbX2_writeCore_X2_loadEdges gdX2_loadEdges) (Nat.le_trans (by decide : 2 + 1 ≤ 52) hd) (by decide) (hXS24 _ _ hl0A).1 (fun cy => wAt_2 cy _ (hXS24 _ _ hl0A).2) rfl ⟨by decide, by decide, by decide +kernel⟩ rfl rfl (Nat.le_of_ble_eq_true rfl) hc hs dX2_writeCore_34 (fun v' S31 hp => ?_)
          obtain ⟨v30, rfl, h, hWS31, hXS31⟩ := hp
          refine wk_aload_n C dX2_writeCore_37 rfl rfl ?_
          refine wk_iconst C (v := 0) dX2_writeCore_38 (by decide) ?_
          refine wk_callV C hR (As := [.int (0 : Int32)]) (cnt := 1) (tX2_fillsFrom (l := l) hWS31 (hXS31 _ _ (hXS24 _ _ hl0A)) h) rfl (wkGoodV (List.mem_of_getElem? (i := 15) rfl) (List.mem_of_getElem? (i := 16) rfl) (List.mem_of_getElem? (i := 17) rfl) (List.mem_of_getElem? (i := 4) rfl) hbX2_writeCore_X2_fillsFrom gdX2_fillsFrom) (Nat.le_trans (by decide : 51 + 1 ≤ 52) hd) (by decide) (hXS31 _ _ (hXS24 _ _ hl0A)).1 (fun cy => wAt_2 cy _ (hXS31 _ _ (hXS24 _ _ hl0A)).2) rfl ⟨by decide, by decide, by decide +kernel⟩ rfl rfl (Nat.le_of_ble_eq_true rfl) hc hs dX2_writeCore_39 (fun v' S36 hp => ?_)
          obtain ⟨v35, rfl, h, hWS36, hXS36⟩ := hp
          refine wk_if_ne C (tgt := 54) dX2_writeCore_42 (by decide) (fun c40 => ?_) (fun c40 => ?_)
          · rw [if_neg c40] at h
            obtain ⟨x41, ex41, h⟩ := wkLt_some h
            refine wk_iinc C (lv' := [some (.ref l0A), some (.ref l1A), none, some (.int l3I), some (.int x41)]) dX2_writeCore_54 rfl (by rw [ex41]; rfl) (by decide) rfl ?_
            refine wk_goto C (tgt := 10) dX2_writeCore_57 (by decide) ?_
            exact wk_forget (lv' := [some (.ref l0A), some (.ref l1A), none, some (.int l3I), some (.int x41)]) (wkLs.le ⟨rfl, rfl, rfl, rfl, trivial⟩) (ih.1 _ _ hc hs _ _ _ _ _ hWS36 (wkExt.tr (wkExt.tr (wkExt.tr hE hXS24) hXS31) hXS36) (hXS36 _ _ (hXS31 _ _ (hXS24 _ _ hl0A))) (hXS36 _ _ (hXS31 _ _ (hXS24 _ _ hl1A))) h)
          · rw [if_pos c40] at h
            refine wk_iload_n C dX2_writeCore_45 rfl rfl ?_
            refine wk_iconst C (v := 1) dX2_writeCore_46 (by decide) ?_
            refine wk_iload C dX2_writeCore_47 rfl ?_
            refine wk_ishl C dX2_writeCore_49 rfl ?_
            refine wk_iconst C (v := (-1)) dX2_writeCore_50 (by decide) ?_
            refine wk_ixor C dX2_writeCore_51 rfl ?_
            refine wk_iand C dX2_writeCore_52 rfl ?_
            obtain ⟨x42, ex42, h⟩ := wkLt_some h
            refine wk_topi ex42 ?_
            refine wk_istore_n C (lv' := [some (.ref l0A), some (.ref l1A), none, some (.int x42), some (.int l4I)]) dX2_writeCore_53 rfl (by decide) rfl ?_
            obtain ⟨x43, ex43, h⟩ := wkLt_some h
            refine wk_iinc C (lv' := [some (.ref l0A), some (.ref l1A), none, some (.int x42), some (.int x43)]) dX2_writeCore_54 rfl (by rw [ex43]; rfl) (by decide) rfl ?_
            refine wk_goto C (tgt := 10) dX2_writeCore_57 (by decide) ?_
            exact wk_forget (lv' := [some (.ref l0A), some (.ref l1A), none, some (.int x42), some (.int x43)]) (wkLs.le ⟨rfl, rfl, rfl, rfl, trivial⟩) (ih.1 _ _ hc hs _ _ _ _ _ hWS36 (wkExt.tr (wkExt.tr (wkExt.tr hE hXS24) hXS31) hXS36) (hXS36 _ _ (hXS31 _ _ (hXS24 _ _ hl0A))) (hXS36 _ _ (hXS31 _ _ (hXS24 _ _ hl1A))) h)
    · intro c s hc hs l1A l3I l4I S hW hE hl1A h
      have h : rX2_writeCore_b1 F k n (rX2_writeCore_go F k n k') c s l1A l3I l4I S Φ := by
        rw [rX2_writeCore_go, if_neg (show ¬ (1 : Nat) = 0 by decide), if_pos (rfl : (1 : Nat) = 1)] at h
        exact h
      unfold rX2_writeCore_b1 at h
      refine wk_iload C dX2_writeCore_90 rfl ?_
      refine wk_aload_n C dX2_writeCore_92 rfl rfl ?_
      refine wk_get C (v := .int (gEntry_itemCount S l1A)) huX2_writeCore_3 hl1A.1 (fun cy => wAt_3 cy _ hl1A.2) rfl 6 (by decide) (List.mem_of_getElem? (i := 18) rfl) rfl rfl dX2_writeCore_93 ?_
      refine wk_icmp_ge C (tgt := 123) dX2_writeCore_96 (by decide) (fun c44 => ?_) (fun c44 => ?_)
      · rw [if_pos c44] at h
        exact E _ _ _ _ _ hc hs dX2_writeCore_123 ⟨(), rfl, h, hW, hE⟩
      · rw [if_neg c44] at h
        refine wk_iload_n C dX2_writeCore_99 rfl rfl ?_
        refine wk_iload C dX2_writeCore_100 rfl ?_
        refine wk_callN C hR (y := yX11_has) (host := "Witnessworks") (As := [.int l3I, .int l4I]) (cnt := 2) (tX11_has (l := l) hW  h) rfl (fun w h => ⟨hbX2_writeCore_X11_has w h, gdX11_has w h⟩) (by decide +kernel) (List.mem_of_getElem? (i := 13) rfl) (List.mem_of_getElem? (i := 14) rfl) (Nat.le_trans (by decide : 0 + 1 ≤ 52) hd) (by decide) ⟨by decide, by decide, by decide +kernel⟩ rfl rfl (Nat.le_of_ble_eq_true rfl) hc hs dX2_writeCore_102 (fun v' S46 hp => ?_)
        obtain ⟨v45, rfl, h, hWS46, hXS46⟩ := hp
        refine wk_if_eq C (tgt := 117) dX2_writeCore_105 (by decide) (fun c50 => ?_) (fun c50 => ?_)
        · rw [if_pos c50] at h
          obtain ⟨x51, ex51, h⟩ := wkLt_some h
          refine wk_iinc C (lv' := [none, some (.ref l1A), none, some (.int l3I), some (.int x51)]) dX2_writeCore_117 rfl (by rw [ex51]; rfl) (by decide) rfl ?_
          refine wk_goto C (tgt := 90) dX2_writeCore_120 (by decide) ?_
          exact wk_forget (lv' := [none, some (.ref l1A), none, some (.int l3I), some (.int x51)]) (wkLs.le ⟨rfl, rfl, rfl, trivial⟩) (ih.2 _ _ hc hs _ _ _ _ hWS46 (wkExt.tr hE hXS46) (hXS46 _ _ hl1A) h)
        · rw [if_neg c50] at h
          refine wk_aload_n C dX2_writeCore_108 rfl rfl ?_
          refine wk_get C huX2_writeCore_3 (hXS46 _ _ hl1A).1 (fun cy => wAt_3 cy _ (hXS46 _ _ hl1A).2) rfl 13 (by decide) (List.mem_of_getElem? (i := 5) rfl) rfl (congrArg some (congrArg va_rf (wf_Entry_row hWS46 (hXS46 _ _ hl1A)).1)) dX2_writeCore_109 ?_
          refine wk_iload C dX2_writeCore_112 rfl ?_
          obtain ⟨k55, n56, hk55, hn56, h⟩ := h
          refine wk_callV C hR (As := [.int l4I]) (cnt := 1) (tX9_add (l := l) hWS46 (wf_Entry_row hWS46 (hXS46 _ _ hl1A)).2 h) rfl (wkGoodV (List.mem_of_getElem? (i := 9) rfl) (List.mem_of_getElem? (i := 10) rfl) (List.mem_of_getElem? (i := 11) rfl) (List.mem_of_getElem? (i := 12) rfl) hbX2_writeCore_X9_add gdX9_add) (Nat.le_trans (by decide : 2 + 1 ≤ 52) hd) (by decide) (wf_Entry_row hWS46 (hXS46 _ _ hl1A)).2.1 (fun cy => wAt_9 cy _ (wf_Entry_row hWS46 (hXS46 _ _ hl1A)).2.2) rfl ⟨by decide, by decide, by decide +kernel⟩ rfl rfl (Nat.le_of_ble_eq_true rfl) hk55 hn56 dX2_writeCore_114 (fun v' S53 hp => ?_)
          obtain ⟨v52, rfl, h, hWS53, hXS53⟩ := hp
          obtain ⟨x57, ex57, h⟩ := wkLt_some h
          refine wk_iinc C (lv' := [none, some (.ref l1A), none, some (.int l3I), some (.int x57)]) dX2_writeCore_117 rfl (by rw [ex57]; rfl) (by decide) rfl ?_
          refine wk_goto C (tgt := 90) dX2_writeCore_120 (by decide) ?_
          exact wk_forget (lv' := [none, some (.ref l1A), none, some (.int l3I), some (.int x57)]) (wkLs.le ⟨rfl, rfl, rfl, trivial⟩) (ih.2 _ _ hk55 hn56 _ _ _ _ hWS53 (wkExt.tr (wkExt.tr hE hXS46) hXS53) (hXS53 _ _ (hXS46 _ _ hl1A)) h)
set_option maxHeartbeats 4000000 in
set_option maxRecDepth 100000 in
theorem tX2_writeCore {l : Launch} {g : wkG} {F : Nat} {k n : Nat}  {S : wPS} {l0A : Nat} {l1A : Nat} {l2I : Int32} {Φ : (Unit → wPS → Prop)} (hW : wkWF S) (hl0A : wkIs S l0A 2) (hl1A : wkIs S l1A 3) (h : rX2_writeCore F k n l0A l1A l2I S Φ) : wkMet l g yX2_writeCore wvX2_writeCore 52 k n [.ref l0A, .ref l1A, .int l2I] S (fun v' S'' => ∃ v : Unit, v' = none ∧ Φ v S'' ∧ wkWF S'' ∧ wkExt S S'') := by
  refine wkMet_of (ret := none) (by decide) rfl (Nat.le_of_ble_eq_true rfl) (fun X hg C hR E => ?_)
  subst hg
  have hE : wkExt S S := wkExt.rf
  have hd : 52 ≤ 52 := Nat.le_refl _
  show wkGo l X 5 0 0 0 S [some (.ref l0A), some (.ref l1A), some (.int l2I), none, none] []
  have ih := tX2_writeCore_go (F := F) C hR hd E F
  have h : rX2_writeCore_s F k n (rX2_writeCore_go F k n F) l0A l1A l2I S Φ := h
  unfold rX2_writeCore_s at h
  refine wk_iload_n C dX2_writeCore_0 rfl rfl ?_
  refine wk_istore_n C (lv' := [some (.ref l0A), some (.ref l1A), some (.int l2I), some (.int l2I), none]) dX2_writeCore_1 rfl (by decide) rfl ?_
  refine wk_aload_n C dX2_writeCore_2 rfl rfl ?_
  refine wk_get C (v := .int (gEntry_itemCount S l1A)) huX2_writeCore_3 hl1A.1 (fun cy => wAt_3 cy _ hl1A.2) rfl 6 (by decide) (List.mem_of_getElem? (i := 18) rfl) rfl rfl dX2_writeCore_3 ?_
  refine wk_iconst C (v := 1) dX2_writeCore_6 (by decide) ?_
  refine wk_isub C dX2_writeCore_7 rfl ?_
  obtain ⟨x58, ex58, h⟩ := wkLt_some h
  refine wk_topi ex58 ?_
  refine wk_istore C (lv' := [some (.ref l0A), some (.ref l1A), some (.int l2I), some (.int l2I), some (.int x58)]) dX2_writeCore_8 (by decide) rfl ?_
  exact wk_forget (lv' := [some (.ref l0A), some (.ref l1A), none, some (.int l2I), some (.int x58)]) (wkLs.le ⟨rfl, rfl, rfl, rfl, trivial⟩) (ih.1 _ _ (Nat.zero_le _) (Nat.zero_le _) _ _ _ _ _ hW hE hl0A hl1A h)
def wvX2_judgeCore : List Cond := .code yX2_judgeCore cX2_judgeCore 7 (some .int) :: (([.fieldLink RX2 131 "Witnessworks$Row" "count" "I", .methodLink RX2 38 yX2_loadEdges, .instanceMethod yX2_loadEdges, .selects RX2 yX2_loadEdges yX2_loadEdges, .initialized RX2, .methodLink RX2 125 yX2_countBranches, .instanceMethod yX2_countBranches, .selects RX2 yX2_countBranches yX2_countBranches, .methodLink RX2 144 yX2_areBranchesOf, .instanceMethod yX2_areBranchesOf, .selects RX2 yX2_areBranchesOf yX2_areBranchesOf, .methodLink RX2 147 yX2_areWaysOf, .instanceMethod yX2_areWaysOf, .selects RX2 yX2_areWaysOf yX2_areWaysOf, .methodLink RX2 128 yX9_at, .instanceMethod yX9_at, .selects RX9 yX9_at yX9_at, .initialized RX9, .fieldLink RX2 76 "Witnessworks$Entry" "boundNow" "I", .fieldLink RX2 79 "Witnessworks$Entry" "itemCount" "I", .methodLink RX2 82 Lib.Math.min.name, .static Lib.Math.min.name, .initialized "java/lang/Math", .code Lib.Math.min.name Lib.Math.min.code 2 (some .int), .methodLink RX2 137 yX9_liesWithin, .instanceMethod yX9_liesWithin, .selects RX9 yX9_liesWithin yX9_liesWithin, .methodLink RX2 141 yX9_isRising, .instanceMethod yX9_isRising, .selects RX9 yX9_isRising yX9_isRising] : List Cond) ++ ((wsX90 ++ (wsX30)) ++ (wvX2_loadEdges ++ (wvX2_countBranches ++ (wvX2_areBranchesOf ++ (wvX2_areWaysOf ++ (wvX9_at ++ (wvX9_liesWithin ++ (wvX9_isRising)))))))))
theorem huX2_judgeCore_9 : ∀ w ∈ u_ws RX9 TX9 2, w ∈ wvX2_judgeCore := fun w h => List.mem_cons_of_mem _ (List.mem_append_right _ (List.mem_append_left _ (List.mem_append_left _ h)))
theorem huX2_judgeCore_3 : ∀ w ∈ u_ws RX3 TX3 17, w ∈ wvX2_judgeCore := fun w h => List.mem_cons_of_mem _ (List.mem_append_right _ (List.mem_append_left _ (List.mem_append_right _ h)))
theorem hbX2_judgeCore_X2_loadEdges : ∀ w ∈ wvX2_loadEdges, w ∈ wvX2_judgeCore := fun w h => List.mem_cons_of_mem _ (List.mem_append_right _ (List.mem_append_right _ (List.mem_append_left _ h)))
theorem hbX2_judgeCore_X2_countBranches : ∀ w ∈ wvX2_countBranches, w ∈ wvX2_judgeCore := fun w h => List.mem_cons_of_mem _ (List.mem_append_right _ (List.mem_append_right _ (List.mem_append_right _ (List.mem_append_left _ h))))
theorem hbX2_judgeCore_X2_areBranchesOf : ∀ w ∈ wvX2_areBranchesOf, w ∈ wvX2_judgeCore := fun w h => List.mem_cons_of_mem _ (List.mem_append_right _ (List.mem_append_right _ (List.mem_append_right _ (List.mem_append_right _ (List.mem_append_left _ h)))))
theorem hbX2_judgeCore_X2_areWaysOf : ∀ w ∈ wvX2_areWaysOf, w ∈ wvX2_judgeCore := fun w h => List.mem_cons_of_mem _ (List.mem_append_right _ (List.mem_append_right _ (List.mem_append_right _ (List.mem_append_right _ (List.mem_append_right _ (List.mem_append_left _ h))))))
theorem hbX2_judgeCore_X9_at : ∀ w ∈ wvX9_at, w ∈ wvX2_judgeCore := fun w h => List.mem_cons_of_mem _ (List.mem_append_right _ (List.mem_append_right _ (List.mem_append_right _ (List.mem_append_right _ (List.mem_append_right _ (List.mem_append_right _ (List.mem_append_left _ h)))))))
theorem hbX2_judgeCore_X9_liesWithin : ∀ w ∈ wvX9_liesWithin, w ∈ wvX2_judgeCore := fun w h => List.mem_cons_of_mem _ (List.mem_append_right _ (List.mem_append_right _ (List.mem_append_right _ (List.mem_append_right _ (List.mem_append_right _ (List.mem_append_right _ (List.mem_append_right _ (List.mem_append_left _ h))))))))
theorem hbX2_judgeCore_X9_isRising : ∀ w ∈ wvX9_isRising, w ∈ wvX2_judgeCore := fun w h => List.mem_cons_of_mem _ (List.mem_append_right _ (List.mem_append_right _ (List.mem_append_right _ (List.mem_append_right _ (List.mem_append_right _ (List.mem_append_right _ (List.mem_append_right _ (List.mem_append_right _ h))))))))
theorem gdX2_judgeCore : ∀ w ∈ wvX2_judgeCore, wkGd w := wkGdC rfl (wkGdA (wkGdL (by decide +kernel)) (wkGdA (wkGdA gdX9 gdX3) (wkGdA gdX2_loadEdges (wkGdA gdX2_countBranches (wkGdA gdX2_areBranchesOf (wkGdA gdX2_areWaysOf (wkGdA gdX9_at (wkGdA gdX9_liesWithin gdX9_isRising))))))))
def rX2_judgeCore_b0 (F : Nat) (rec : Nat → Nat → Nat → Nat → Int32 → Int32 → Int32 → wPS → (Int32 → wPS → Prop) → Prop) (l0A : Nat) (l1A : Nat) (l2A : Nat) (l4I : Int32) (l5I : Int32) (l6I : Int32) (S : wPS) (Φ : (Int32 → wPS → Prop)) : Prop :=
  if (gRow_count S l2A) ≤ l6I then (rX2_loadEdges F l0A l1A l5I S fun v2 S3 => rX2_countBranches F l0A (0 : Int32) S3 fun v7 S8 => rX2_countBranches F l0A (1 : Int32) S8 fun v12 S13 => if v7 = v12 then (rX2_areBranchesOf F l0A l4I S13 fun v18 S19 => if v18 = 0 then (Φ (3 : Int32) S19) else (rX2_areWaysOf F l0A l4I S19 fun v24 S25 => if v24 = 0 then (Φ (4 : Int32) S25) else (Φ (0 : Int32) S25))) else (Φ (2 : Int32) S13)) else (rX9_at F l2A l6I S fun v30 S31 => wkLt ((l5I ||| ((1 : Int32) <<< (v30 &&& 31)))) fun x35 => wkLt (l6I + (1 : Int32)) fun x36 => rec 0 l0A l1A l2A l4I x35 x36 S31 Φ)
def rX2_judgeCore_go (F : Nat) : Nat → Nat → Nat → Nat → Nat → Int32 → Int32 → Int32 → wPS → (Int32 → wPS → Prop) → Prop
  | 0, _, _, _, _, _, _, _, _, _ => False
  | k' + 1, lab, l0A, l1A, l2A, l4I, l5I, l6I, S, Φ => if lab = 0 then rX2_judgeCore_b0 F (rX2_judgeCore_go F k') l0A l1A l2A l4I l5I l6I S Φ else False
def rX2_judgeCore_s (F : Nat) (rec : Nat → Nat → Nat → Nat → Int32 → Int32 → Int32 → wPS → (Int32 → wPS → Prop) → Prop) (l0A : Nat) (l1A : Nat) (l2A : Nat) (S : wPS) (Φ : (Int32 → wPS → Prop)) : Prop :=
  wkLt ((if (gEntry_itemCount S l1A) < (gEntry_boundNow S l1A) then (gEntry_itemCount S l1A) else (gEntry_boundNow S l1A))) fun x37 => rX9_at F l2A (0 : Int32) S fun v38 S39 => if (gRow_count S39 l2A) = 0 then (Φ (1 : Int32) S39) else (if v38 = (5 : Int32) then (rX9_liesWithin F l2A (1 : Int32) (0 : Int32) (x37 - (1 : Int32)) S39 fun v45 S46 => if v45 = 0 then (Φ (1 : Int32) S46) else (rX9_isRising F l2A (1 : Int32) S46 fun v51 S52 => if v51 = 0 then (Φ (1 : Int32) S52) else (rec 0 l0A l1A l2A v38 (0 : Int32) (1 : Int32) S52 Φ))) else (if v38 = (3 : Int32) then (rX9_liesWithin F l2A (1 : Int32) (0 : Int32) (x37 - (1 : Int32)) S39 fun v58 S59 => if v58 = 0 then (Φ (1 : Int32) S59) else (rX9_isRising F l2A (1 : Int32) S59 fun v64 S65 => if v64 = 0 then (Φ (1 : Int32) S65) else (rec 0 l0A l1A l2A v38 (0 : Int32) (1 : Int32) S65 Φ))) else (Φ (1 : Int32) S39)))
def rX2_judgeCore (F : Nat) (l0A : Nat) (l1A : Nat) (l2A : Nat) (S : wPS) (Φ : (Int32 → wPS → Prop)) : Prop := rX2_judgeCore_s F (rX2_judgeCore_go F F) l0A l1A l2A S Φ
set_option maxHeartbeats 4000000 in
set_option maxRecDepth 100000 in
theorem tX2_judgeCore_go {l : Launch} {X : wkX} {d F : Nat} {S0 : wPS} {Φ : (Int32 → wPS → Prop)} (C : wkC X cX2_judgeCore RX2 7 wvX2_judgeCore) (hR : wkRm X d 0 0) (hd : 4 ≤ d) (E : wkEnd l X cX2_judgeCore 7 (some .int) 0 0 (fun v' S'' => ∃ v : Int32, v' = some (.int v) ∧ Φ v S'' ∧ wkWF S'' ∧ wkExt S0 S'')) : ∀ k' : Nat, (∀ (l0A : Nat) (l1A : Nat) (l2A : Nat) (l4I : Int32) (l5I : Int32) (l6I : Int32) (S : wPS), wkWF S → wkExt S0 S → wkIs S l0A 2 → wkIs S l1A 3 → wkIs S l2A 9 → rX2_judgeCore_go F k' 0 l0A l1A l2A l4I l5I l6I S Φ → wkGo l X 7 0 0 66 S [some (.ref l0A), some (.ref l1A), some (.ref l2A), none, some (.int l4I), some (.int l5I), some (.int l6I)] []) := by
  intro k'
  induction k' with
  | zero => exact fun l0A l1A l2A l4I l5I l6I S hW hE hl0A hl1A hl2A h => h.elim
  | succ k' ih =>
    · intro l0A l1A l2A l4I l5I l6I S hW hE hl0A hl1A hl2A h
      have h : rX2_judgeCore_b0 F (rX2_judgeCore_go F k') l0A l1A l2A l4I l5I l6I S Φ := by
        rw [rX2_judgeCore_go, if_pos (rfl : (0 : Nat) = 0)] at h
        exact h
      unfold rX2_judgeCore_b0 at h
      refine wk_iload C dX2_judgeCore_66 rfl ?_
      refine wk_aload_n C dX2_judgeCore_68 rfl rfl ?_
      refine wk_get C (v := .int (gRow_count S l2A)) huX2_judgeCore_9 hl2A.1 (fun cy => wAt_9 cy _ hl2A.2) rfl 1 (by decide) (List.mem_of_getElem? (i := 1) rfl) rfl rfl dX2_judgeCore_69 ?_
      refine wk_icmp_ge C (tgt := 94) dX2_judgeCore_72 (by decide) (fun c1 => ?_) (fun c1 => ?_)
      · rw [if_pos c1] at h
        refine wk_aload_n C dX2_judgeCore_94 rfl rfl ?_
        refine wk_aload_n C dX2_judgeCore_95 rfl rfl ?_
        refine wk_iload C dX2_judgeCore_96 rfl ?_
        refine wk_callV C hR (As := [.ref l1A, .int l5I]) (cnt := 2) (tX2_loadEdges (l := l) hW hl0A hl1A h) rfl (wkGoodV (List.mem_of_getElem? (i := 2) rfl) (List.mem_of_getElem? (i := 3) rfl) (List.mem_of_getElem? (i := 4) rfl) (List.mem_of_getElem? (i := 5) rfl) hbX2_judgeCore_X2_loadEdges gdX2_loadEdges) (Nat.le_trans (by decide : 2 + 1 ≤ 4) hd) (by decide) hl0A.1 (fun cy => wAt_2 cy _ hl0A.2) rfl ⟨by decide, by decide, by decide +kernel⟩ rfl rfl (Nat.le_of_ble_eq_true rfl) (Nat.le_refl 0) (Nat.le_refl 0) dX2_judgeCore_98 (fun v' S3 hp => ?_)
        obtain ⟨v2, rfl, h, hWS3, hXS3⟩ := hp
        refine wk_aload_n C dX2_judgeCore_101 rfl rfl ?_
        refine wk_iconst C (v := 0) dX2_judgeCore_102 (by decide) ?_
        refine wk_callV C hR (As := [.int (0 : Int32)]) (cnt := 1) (tX2_countBranches (l := l) hWS3 (hXS3 _ _ hl0A) h) rfl (wkGoodV (List.mem_of_getElem? (i := 6) rfl) (List.mem_of_getElem? (i := 7) rfl) (List.mem_of_getElem? (i := 8) rfl) (List.mem_of_getElem? (i := 5) rfl) hbX2_judgeCore_X2_countBranches gdX2_countBranches) (Nat.le_trans (by decide : 1 + 1 ≤ 4) hd) (by decide) (hXS3 _ _ hl0A).1 (fun cy => wAt_2 cy _ (hXS3 _ _ hl0A).2) rfl ⟨by decide, by decide, by decide +kernel⟩ rfl rfl (Nat.le_of_ble_eq_true rfl) (Nat.le_refl 0) (Nat.le_refl 0) dX2_judgeCore_103 (fun v' S8 hp => ?_)
        obtain ⟨v7, rfl, h, hWS8, hXS8⟩ := hp
        refine wk_aload_n C dX2_judgeCore_106 rfl rfl ?_
        refine wk_iconst C (v := 1) dX2_judgeCore_107 (by decide) ?_
        refine wk_callV C hR (As := [.int (1 : Int32)]) (cnt := 1) (tX2_countBranches (l := l) hWS8 (hXS8 _ _ (hXS3 _ _ hl0A)) h) rfl (wkGoodV (List.mem_of_getElem? (i := 6) rfl) (List.mem_of_getElem? (i := 7) rfl) (List.mem_of_getElem? (i := 8) rfl) (List.mem_of_getElem? (i := 5) rfl) hbX2_judgeCore_X2_countBranches gdX2_countBranches) (Nat.le_trans (by decide : 1 + 1 ≤ 4) hd) (by decide) (hXS8 _ _ (hXS3 _ _ hl0A)).1 (fun cy => wAt_2 cy _ (hXS8 _ _ (hXS3 _ _ hl0A)).2) rfl ⟨by decide, by decide, by decide +kernel⟩ rfl rfl (Nat.le_of_ble_eq_true rfl) (Nat.le_refl 0) (Nat.le_refl 0) dX2_judgeCore_108 (fun v' S13 hp => ?_)
        obtain ⟨v12, rfl, h, hWS13, hXS13⟩ := hp
        refine wk_icmp_eq C (tgt := 116) dX2_judgeCore_111 (by decide) (fun c17 => ?_) (fun c17 => ?_)
        · rw [if_pos c17] at h
          refine wk_aload_n C dX2_judgeCore_116 rfl rfl ?_
          refine wk_iload C dX2_judgeCore_117 rfl ?_
          refine wk_callV C hR (As := [.int l4I]) (cnt := 1) (tX2_areBranchesOf (l := l) hWS13 (hXS13 _ _ (hXS8 _ _ (hXS3 _ _ hl0A))) h) rfl (wkGoodV (List.mem_of_getElem? (i := 9) rfl) (List.mem_of_getElem? (i := 10) rfl) (List.mem_of_getElem? (i := 11) rfl) (List.mem_of_getElem? (i := 5) rfl) hbX2_judgeCore_X2_areBranchesOf gdX2_areBranchesOf) (Nat.le_trans (by decide : 2 + 1 ≤ 4) hd) (by decide) (hXS13 _ _ (hXS8 _ _ (hXS3 _ _ hl0A))).1 (fun cy => wAt_2 cy _ (hXS13 _ _ (hXS8 _ _ (hXS3 _ _ hl0A))).2) rfl ⟨by decide, by decide, by decide +kernel⟩ rfl rfl (Nat.le_of_ble_eq_true rfl) (Nat.le_refl 0) (Nat.le_refl 0) dX2_judgeCore_119 (fun v' S19 hp => ?_)
          obtain ⟨v18, rfl, h, hWS19, hXS19⟩ := hp
          refine wk_if_ne C (tgt := 127) dX2_judgeCore_122 (by decide) (fun c23 => ?_) (fun c23 => ?_)
          · rw [if_neg c23] at h
            refine wk_aload_n C dX2_judgeCore_127 rfl rfl ?_
            refine wk_iload C dX2_judgeCore_128 rfl ?_
            refine wk_callV C hR (As := [.int l4I]) (cnt := 1) (tX2_areWaysOf (l := l) hWS19 (hXS19 _ _ (hXS13 _ _ (hXS8 _ _ (hXS3 _ _ hl0A)))) h) rfl (wkGoodV (List.mem_of_getElem? (i := 12) rfl) (List.mem_of_getElem? (i := 13) rfl) (List.mem_of_getElem? (i := 14) rfl) (List.mem_of_getElem? (i := 5) rfl) hbX2_judgeCore_X2_areWaysOf gdX2_areWaysOf) (Nat.le_trans (by decide : 3 + 1 ≤ 4) hd) (by decide) (hXS19 _ _ (hXS13 _ _ (hXS8 _ _ (hXS3 _ _ hl0A)))).1 (fun cy => wAt_2 cy _ (hXS19 _ _ (hXS13 _ _ (hXS8 _ _ (hXS3 _ _ hl0A)))).2) rfl ⟨by decide, by decide, by decide +kernel⟩ rfl rfl (Nat.le_of_ble_eq_true rfl) (Nat.le_refl 0) (Nat.le_refl 0) dX2_judgeCore_130 (fun v' S25 hp => ?_)
            obtain ⟨v24, rfl, h, hWS25, hXS25⟩ := hp
            refine wk_if_eq C (tgt := 140) dX2_judgeCore_133 (by decide) (fun c29 => ?_) (fun c29 => ?_)
            · rw [if_pos c29] at h
              refine wk_iconst C (v := 4) dX2_judgeCore_140 (by decide) ?_
              exact E _ _ _ _ _ _ (Nat.le_refl 0) (Nat.le_refl 0) dX2_judgeCore_141 ⟨(4 : Int32), rfl, h, hWS25, (wkExt.tr (wkExt.tr (wkExt.tr (wkExt.tr (wkExt.tr hE hXS3) hXS8) hXS13) hXS19) hXS25)⟩
            · rw [if_neg c29] at h
              refine wk_iconst C (v := 0) dX2_judgeCore_136 (by decide) ?_
              refine wk_goto C (tgt := 141) dX2_judgeCore_137 (by decide) ?_
              exact E _ _ _ _ _ _ (Nat.le_refl 0) (Nat.le_refl 0) dX2_judgeCore_141 ⟨(0 : Int32), rfl, h, hWS25, (wkExt.tr (wkExt.tr (wkExt.tr (wkExt.tr (wkExt.tr hE hXS3) hXS8) hXS13) hXS19) hXS25)⟩
          · rw [if_pos c23] at h
            refine wk_iconst C (v := 3) dX2_judgeCore_125 (by decide) ?_
            exact E _ _ _ _ _ _ (Nat.le_refl 0) (Nat.le_refl 0) dX2_judgeCore_126 ⟨(3 : Int32), rfl, h, hWS19, (wkExt.tr (wkExt.tr (wkExt.tr (wkExt.tr hE hXS3) hXS8) hXS13) hXS19)⟩
        · rw [if_neg c17] at h
          refine wk_iconst C (v := 2) dX2_judgeCore_114 (by decide) ?_
          exact E _ _ _ _ _ _ (Nat.le_refl 0) (Nat.le_refl 0) dX2_judgeCore_115 ⟨(2 : Int32), rfl, h, hWS13, (wkExt.tr (wkExt.tr (wkExt.tr hE hXS3) hXS8) hXS13)⟩
      · rw [if_neg c1] at h
        refine wk_iload C dX2_judgeCore_75 rfl ?_
        refine wk_iconst C (v := 1) dX2_judgeCore_77 (by decide) ?_
        refine wk_aload_n C dX2_judgeCore_78 rfl rfl ?_
        refine wk_iload C dX2_judgeCore_79 rfl ?_
        refine wk_callV C hR (As := [.int l6I]) (cnt := 1) (tX9_at (l := l) hW hl2A h) rfl (wkGoodV (List.mem_of_getElem? (i := 15) rfl) (List.mem_of_getElem? (i := 16) rfl) (List.mem_of_getElem? (i := 17) rfl) (List.mem_of_getElem? (i := 18) rfl) hbX2_judgeCore_X9_at gdX9_at) (Nat.le_trans (by decide : 0 + 1 ≤ 4) hd) (by decide) hl2A.1 (fun cy => wAt_9 cy _ hl2A.2) rfl ⟨by decide, by decide, by decide +kernel⟩ rfl rfl (Nat.le_of_ble_eq_true rfl) (Nat.le_refl 0) (Nat.le_refl 0) dX2_judgeCore_81 (fun v' S31 hp => ?_)
        obtain ⟨v30, rfl, h, hWS31, hXS31⟩ := hp
        refine wk_ishl C dX2_judgeCore_84 rfl ?_
        refine wk_ior C dX2_judgeCore_85 rfl ?_
        obtain ⟨x35, ex35, h⟩ := wkLt_some h
        refine wk_topi ex35 ?_
        refine wk_istore C (lv' := [some (.ref l0A), some (.ref l1A), some (.ref l2A), none, some (.int l4I), some (.int x35), some (.int l6I)]) dX2_judgeCore_86 (by decide) rfl ?_
        obtain ⟨x36, ex36, h⟩ := wkLt_some h
        refine wk_iinc C (lv' := [some (.ref l0A), some (.ref l1A), some (.ref l2A), none, some (.int l4I), some (.int x35), some (.int x36)]) dX2_judgeCore_88 rfl (by rw [ex36]; rfl) (by decide) rfl ?_
        refine wk_goto C (tgt := 66) dX2_judgeCore_91 (by decide) ?_
        exact wk_forget (lv' := [some (.ref l0A), some (.ref l1A), some (.ref l2A), none, some (.int l4I), some (.int x35), some (.int x36)]) (wkLs.le ⟨rfl, rfl, rfl, rfl, rfl, rfl, trivial⟩) (ih _ _ _ _ _ _ _ hWS31 (wkExt.tr hE hXS31) (hXS31 _ _ hl0A) (hXS31 _ _ hl1A) (hXS31 _ _ hl2A) h)
set_option maxHeartbeats 4000000 in
set_option maxRecDepth 100000 in
theorem tX2_judgeCore {l : Launch} {g : wkG} {F : Nat}  {S : wPS} {l0A : Nat} {l1A : Nat} {l2A : Nat} {Φ : (Int32 → wPS → Prop)} (hW : wkWF S) (hl0A : wkIs S l0A 2) (hl1A : wkIs S l1A 3) (hl2A : wkIs S l2A 9) (h : rX2_judgeCore F l0A l1A l2A S Φ) : wkMet l g yX2_judgeCore wvX2_judgeCore 4 0 0 [.ref l0A, .ref l1A, .ref l2A] S (fun v' S'' => ∃ v : Int32, v' = some (.int v) ∧ Φ v S'' ∧ wkWF S'' ∧ wkExt S S'') := by
  refine wkMet_of (ret := (some .int)) (by decide) rfl (Nat.le_of_ble_eq_true rfl) (fun X hg C hR E => ?_)
  subst hg
  have hE : wkExt S S := wkExt.rf
  have hd : 4 ≤ 4 := Nat.le_refl _
  show wkGo l X 7 0 0 0 S [some (.ref l0A), some (.ref l1A), some (.ref l2A), none, none, none, none] []
  have ih := tX2_judgeCore_go (F := F) C hR hd E F
  have h : rX2_judgeCore_s F (rX2_judgeCore_go F F) l0A l1A l2A S Φ := h
  unfold rX2_judgeCore_s at h
  refine wk_aload_n C dX2_judgeCore_0 rfl rfl ?_
  refine wk_get C (v := .int (gEntry_boundNow S l1A)) huX2_judgeCore_3 hl1A.1 (fun cy => wAt_3 cy _ hl1A.2) rfl 8 (by decide) (List.mem_of_getElem? (i := 19) rfl) rfl rfl dX2_judgeCore_1 ?_
  refine wk_aload_n C dX2_judgeCore_4 rfl rfl ?_
  refine wk_get C (v := .int (gEntry_itemCount S l1A)) huX2_judgeCore_3 hl1A.1 (fun cy => wAt_3 cy _ hl1A.2) rfl 6 (by decide) (List.mem_of_getElem? (i := 20) rfl) rfl rfl dX2_judgeCore_5 ?_
  refine wk_mmin C hR (List.mem_of_getElem? (i := 21) rfl) (List.mem_of_getElem? (i := 22) rfl) (List.mem_of_getElem? (i := 23) rfl) (List.mem_of_getElem? (i := 24) rfl) (Nat.le_trans (by decide) hd) (Nat.le_refl 0) (Nat.le_refl 0) (Nat.le_of_ble_eq_true rfl) rfl dX2_judgeCore_8 ?_
  obtain ⟨x37, ex37, h⟩ := wkLt_some h
  refine wk_topi ex37 ?_
  refine wk_istore_n C (lv' := [some (.ref l0A), some (.ref l1A), some (.ref l2A), some (.int x37), none, none, none]) dX2_judgeCore_11 rfl (by decide) rfl ?_
  refine wk_aload_n C dX2_judgeCore_12 rfl rfl ?_
  refine wk_iconst C (v := 0) dX2_judgeCore_13 (by decide) ?_
  refine wk_callV C hR (As := [.int (0 : Int32)]) (cnt := 1) (tX9_at (l := l) hW hl2A h) rfl (wkGoodV (List.mem_of_getElem? (i := 15) rfl) (List.mem_of_getElem? (i := 16) rfl) (List.mem_of_getElem? (i := 17) rfl) (List.mem_of_getElem? (i := 18) rfl) hbX2_judgeCore_X9_at gdX9_at) (Nat.le_trans (by decide : 0 + 1 ≤ 4) hd) (by decide) hl2A.1 (fun cy => wAt_9 cy _ hl2A.2) rfl ⟨by decide, by decide, by decide +kernel⟩ rfl rfl (Nat.le_of_ble_eq_true rfl) (Nat.le_refl 0) (Nat.le_refl 0) dX2_judgeCore_14 (fun v' S39 hp => ?_)
  obtain ⟨v38, rfl, h, hWS39, hXS39⟩ := hp
  refine wk_istore C (lv' := [some (.ref l0A), some (.ref l1A), some (.ref l2A), some (.int x37), some (.int v38), none, none]) dX2_judgeCore_17 (by decide) rfl ?_
  refine wk_aload_n C dX2_judgeCore_19 rfl rfl ?_
  refine wk_get C (v := .int (gRow_count S39 l2A)) huX2_judgeCore_9 (hXS39 _ _ hl2A).1 (fun cy => wAt_9 cy _ (hXS39 _ _ hl2A).2) rfl 1 (by decide) (List.mem_of_getElem? (i := 1) rfl) rfl rfl dX2_judgeCore_20 ?_
  refine wk_if_eq C (tgt := 58) dX2_judgeCore_23 (by decide) (fun c43 => ?_) (fun c43 => ?_)
  · rw [if_pos c43] at h
    refine wk_iconst C (v := 1) dX2_judgeCore_58 (by decide) ?_
    exact E _ _ _ _ _ _ (Nat.le_refl 0) (Nat.le_refl 0) dX2_judgeCore_59 ⟨(1 : Int32), rfl, h, hWS39, (wkExt.tr hE hXS39)⟩
  · rw [if_neg c43] at h
    refine wk_iload C dX2_judgeCore_26 rfl ?_
    refine wk_iconst C (v := 5) dX2_judgeCore_28 (by decide) ?_
    refine wk_icmp_eq C (tgt := 38) dX2_judgeCore_29 (by decide) (fun c44 => ?_) (fun c44 => ?_)
    · rw [if_pos c44] at h
      refine wk_aload_n C dX2_judgeCore_38 rfl rfl ?_
      refine wk_iconst C (v := 1) dX2_judgeCore_39 (by decide) ?_
      refine wk_iconst C (v := 0) dX2_judgeCore_40 (by decide) ?_
      refine wk_iload_n C dX2_judgeCore_41 rfl rfl ?_
      refine wk_iconst C (v := 1) dX2_judgeCore_42 (by decide) ?_
      refine wk_isub C dX2_judgeCore_43 rfl ?_
      refine wk_callV C hR (As := [.int (1 : Int32), .int (0 : Int32), .int (x37 - (1 : Int32))]) (cnt := 3) (tX9_liesWithin (l := l) hWS39 (hXS39 _ _ hl2A) h) rfl (wkGoodV (List.mem_of_getElem? (i := 25) rfl) (List.mem_of_getElem? (i := 26) rfl) (List.mem_of_getElem? (i := 27) rfl) (List.mem_of_getElem? (i := 18) rfl) hbX2_judgeCore_X9_liesWithin gdX9_liesWithin) (Nat.le_trans (by decide : 0 + 1 ≤ 4) hd) (by decide) (hXS39 _ _ hl2A).1 (fun cy => wAt_9 cy _ (hXS39 _ _ hl2A).2) rfl ⟨by decide, by decide, by decide +kernel⟩ rfl rfl (Nat.le_of_ble_eq_true rfl) (Nat.le_refl 0) (Nat.le_refl 0) dX2_judgeCore_44 (fun v' S46 hp => ?_)
      obtain ⟨v45, rfl, h, hWS46, hXS46⟩ := hp
      refine wk_if_eq C (tgt := 58) dX2_judgeCore_47 (by decide) (fun c50 => ?_) (fun c50 => ?_)
      · rw [if_pos c50] at h
        refine wk_iconst C (v := 1) dX2_judgeCore_58 (by decide) ?_
        exact E _ _ _ _ _ _ (Nat.le_refl 0) (Nat.le_refl 0) dX2_judgeCore_59 ⟨(1 : Int32), rfl, h, hWS46, (wkExt.tr (wkExt.tr hE hXS39) hXS46)⟩
      · rw [if_neg c50] at h
        refine wk_aload_n C dX2_judgeCore_50 rfl rfl ?_
        refine wk_iconst C (v := 1) dX2_judgeCore_51 (by decide) ?_
        refine wk_callV C hR (As := [.int (1 : Int32)]) (cnt := 1) (tX9_isRising (l := l) hWS46 (hXS46 _ _ (hXS39 _ _ hl2A)) h) rfl (wkGoodV (List.mem_of_getElem? (i := 28) rfl) (List.mem_of_getElem? (i := 29) rfl) (List.mem_of_getElem? (i := 30) rfl) (List.mem_of_getElem? (i := 18) rfl) hbX2_judgeCore_X9_isRising gdX9_isRising) (Nat.le_trans (by decide : 0 + 1 ≤ 4) hd) (by decide) (hXS46 _ _ (hXS39 _ _ hl2A)).1 (fun cy => wAt_9 cy _ (hXS46 _ _ (hXS39 _ _ hl2A)).2) rfl ⟨by decide, by decide, by decide +kernel⟩ rfl rfl (Nat.le_of_ble_eq_true rfl) (Nat.le_refl 0) (Nat.le_refl 0) dX2_judgeCore_52 (fun v' S52 hp => ?_)
        obtain ⟨v51, rfl, h, hWS52, hXS52⟩ := hp
        refine wk_if_ne C (tgt := 60) dX2_judgeCore_55 (by decide) (fun c56 => ?_) (fun c56 => ?_)
        · rw [if_neg c56] at h
          refine wk_iconst C (v := 0) dX2_judgeCore_60 (by decide) ?_
          refine wk_istore C (lv' := [some (.ref l0A), some (.ref l1A), some (.ref l2A), some (.int x37), some (.int v38), some (.int (0 : Int32)), none]) dX2_judgeCore_61 (by decide) rfl ?_
          refine wk_iconst C (v := 1) dX2_judgeCore_63 (by decide) ?_
          refine wk_istore C (lv' := [some (.ref l0A), some (.ref l1A), some (.ref l2A), some (.int x37), some (.int v38), some (.int (0 : Int32)), some (.int (1 : Int32))]) dX2_judgeCore_64 (by decide) rfl ?_
          exact wk_forget (lv' := [some (.ref l0A), some (.ref l1A), some (.ref l2A), none, some (.int v38), some (.int (0 : Int32)), some (.int (1 : Int32))]) (wkLs.le ⟨rfl, rfl, rfl, rfl, rfl, rfl, trivial⟩) (ih _ _ _ _ _ _ _ hWS52 (wkExt.tr (wkExt.tr (wkExt.tr hE hXS39) hXS46) hXS52) (hXS52 _ _ (hXS46 _ _ (hXS39 _ _ hl0A))) (hXS52 _ _ (hXS46 _ _ (hXS39 _ _ hl1A))) (hXS52 _ _ (hXS46 _ _ (hXS39 _ _ hl2A))) h)
        · rw [if_pos c56] at h
          refine wk_iconst C (v := 1) dX2_judgeCore_58 (by decide) ?_
          exact E _ _ _ _ _ _ (Nat.le_refl 0) (Nat.le_refl 0) dX2_judgeCore_59 ⟨(1 : Int32), rfl, h, hWS52, (wkExt.tr (wkExt.tr (wkExt.tr hE hXS39) hXS46) hXS52)⟩
    · rw [if_neg c44] at h
      refine wk_iload C dX2_judgeCore_32 rfl ?_
      refine wk_iconst C (v := 3) dX2_judgeCore_34 (by decide) ?_
      refine wk_icmp_ne C (tgt := 58) dX2_judgeCore_35 (by decide) (fun c57 => ?_) (fun c57 => ?_)
      · rw [if_neg c57] at h
        refine wk_iconst C (v := 1) dX2_judgeCore_58 (by decide) ?_
        exact E _ _ _ _ _ _ (Nat.le_refl 0) (Nat.le_refl 0) dX2_judgeCore_59 ⟨(1 : Int32), rfl, h, hWS39, (wkExt.tr hE hXS39)⟩
      · rw [if_pos c57] at h
        refine wk_aload_n C dX2_judgeCore_38 rfl rfl ?_
        refine wk_iconst C (v := 1) dX2_judgeCore_39 (by decide) ?_
        refine wk_iconst C (v := 0) dX2_judgeCore_40 (by decide) ?_
        refine wk_iload_n C dX2_judgeCore_41 rfl rfl ?_
        refine wk_iconst C (v := 1) dX2_judgeCore_42 (by decide) ?_
        refine wk_isub C dX2_judgeCore_43 rfl ?_
        refine wk_callV C hR (As := [.int (1 : Int32), .int (0 : Int32), .int (x37 - (1 : Int32))]) (cnt := 3) (tX9_liesWithin (l := l) hWS39 (hXS39 _ _ hl2A) h) rfl (wkGoodV (List.mem_of_getElem? (i := 25) rfl) (List.mem_of_getElem? (i := 26) rfl) (List.mem_of_getElem? (i := 27) rfl) (List.mem_of_getElem? (i := 18) rfl) hbX2_judgeCore_X9_liesWithin gdX9_liesWithin) (Nat.le_trans (by decide : 0 + 1 ≤ 4) hd) (by decide) (hXS39 _ _ hl2A).1 (fun cy => wAt_9 cy _ (hXS39 _ _ hl2A).2) rfl ⟨by decide, by decide, by decide +kernel⟩ rfl rfl (Nat.le_of_ble_eq_true rfl) (Nat.le_refl 0) (Nat.le_refl 0) dX2_judgeCore_44 (fun v' S59 hp => ?_)
        obtain ⟨v58, rfl, h, hWS59, hXS59⟩ := hp
        refine wk_if_eq C (tgt := 58) dX2_judgeCore_47 (by decide) (fun c63 => ?_) (fun c63 => ?_)
        · rw [if_pos c63] at h
          refine wk_iconst C (v := 1) dX2_judgeCore_58 (by decide) ?_
          exact E _ _ _ _ _ _ (Nat.le_refl 0) (Nat.le_refl 0) dX2_judgeCore_59 ⟨(1 : Int32), rfl, h, hWS59, (wkExt.tr (wkExt.tr hE hXS39) hXS59)⟩
        · rw [if_neg c63] at h
          refine wk_aload_n C dX2_judgeCore_50 rfl rfl ?_
          refine wk_iconst C (v := 1) dX2_judgeCore_51 (by decide) ?_
          refine wk_callV C hR (As := [.int (1 : Int32)]) (cnt := 1) (tX9_isRising (l := l) hWS59 (hXS59 _ _ (hXS39 _ _ hl2A)) h) rfl (wkGoodV (List.mem_of_getElem? (i := 28) rfl) (List.mem_of_getElem? (i := 29) rfl) (List.mem_of_getElem? (i := 30) rfl) (List.mem_of_getElem? (i := 18) rfl) hbX2_judgeCore_X9_isRising gdX9_isRising) (Nat.le_trans (by decide : 0 + 1 ≤ 4) hd) (by decide) (hXS59 _ _ (hXS39 _ _ hl2A)).1 (fun cy => wAt_9 cy _ (hXS59 _ _ (hXS39 _ _ hl2A)).2) rfl ⟨by decide, by decide, by decide +kernel⟩ rfl rfl (Nat.le_of_ble_eq_true rfl) (Nat.le_refl 0) (Nat.le_refl 0) dX2_judgeCore_52 (fun v' S65 hp => ?_)
          obtain ⟨v64, rfl, h, hWS65, hXS65⟩ := hp
          refine wk_if_ne C (tgt := 60) dX2_judgeCore_55 (by decide) (fun c69 => ?_) (fun c69 => ?_)
          · rw [if_neg c69] at h
            refine wk_iconst C (v := 0) dX2_judgeCore_60 (by decide) ?_
            refine wk_istore C (lv' := [some (.ref l0A), some (.ref l1A), some (.ref l2A), some (.int x37), some (.int v38), some (.int (0 : Int32)), none]) dX2_judgeCore_61 (by decide) rfl ?_
            refine wk_iconst C (v := 1) dX2_judgeCore_63 (by decide) ?_
            refine wk_istore C (lv' := [some (.ref l0A), some (.ref l1A), some (.ref l2A), some (.int x37), some (.int v38), some (.int (0 : Int32)), some (.int (1 : Int32))]) dX2_judgeCore_64 (by decide) rfl ?_
            exact wk_forget (lv' := [some (.ref l0A), some (.ref l1A), some (.ref l2A), none, some (.int v38), some (.int (0 : Int32)), some (.int (1 : Int32))]) (wkLs.le ⟨rfl, rfl, rfl, rfl, rfl, rfl, trivial⟩) (ih _ _ _ _ _ _ _ hWS65 (wkExt.tr (wkExt.tr (wkExt.tr hE hXS39) hXS59) hXS65) (hXS65 _ _ (hXS59 _ _ (hXS39 _ _ hl0A))) (hXS65 _ _ (hXS59 _ _ (hXS39 _ _ hl1A))) (hXS65 _ _ (hXS59 _ _ (hXS39 _ _ hl2A))) h)
          · rw [if_pos c69] at h
            refine wk_iconst C (v := 1) dX2_judgeCore_58 (by decide) ?_
            exact E _ _ _ _ _ _ (Nat.le_refl 0) (Nat.le_refl 0) dX2_judgeCore_59 ⟨(1 : Int32), rfl, h, hWS65, (wkExt.tr (wkExt.tr (wkExt.tr hE hXS39) hXS59) hXS65)⟩
