def wvX7_solveFlows : List Cond := .code yX7_solveFlows cX7_solveFlows 5 none :: (([.fieldLink RX7 46 "Witnessworks$Entry" "boundNow" "I", .methodLink RX7 144 yX7_lowerAll, .instanceMethod yX7_lowerAll, .selects RX7 yX7_lowerAll yX7_lowerAll, .initialized RX7, .fieldLink RX7 138 "Witnessworks$Networks" "nodeCount" "I", .methodLink RX7 141 yX7_leadsOn, .instanceMethod yX7_leadsOn, .selects RX7 yX7_leadsOn yX7_leadsOn, .fieldLink RX7 147 "Witnessworks$Networks" "itemCount" "I", .fieldLink RX7 53 "Witnessworks$Entry" "row" "LWitnessworks$Row;", .fieldLink RX7 27 "Witnessworks$Networks" "flow" "[I", .methodLink RX7 82 yX9_add, .instanceMethod yX9_add, .selects RX9 yX9_add yX9_add, .initialized RX9, .fieldLink RX7 150 "Witnessworks$Networks" "reached" "I", .static yX11_has, .initialized RX11, .methodLink RX7 126 yX7_loadFlows, .instanceMethod yX7_loadFlows, .selects RX7 yX7_loadFlows yX7_loadFlows, .methodLink RX7 129 yX7_greatest, .instanceMethod yX7_greatest, .selects RX7 yX7_greatest yX7_greatest, .methodLink RX7 49 yX3_tell, .instanceMethod yX3_tell, .selects RX3 yX3_tell yX3_tell, .initialized RX3, .methodLink RX7 133 yJ7_fill_53178, .static yJ7_fill_53178, .initialized RJ7] : List Cond) ++ ((wsX30 ++ (wsX70)) ++ (wvX7_lowerAll ++ (wvX7_leadsOn ++ (wvX9_add ++ (wvX11_has ++ (wvX7_loadFlows ++ (wvX7_greatest ++ (wvX3_tell ++ (wvJ7_fill_53178))))))))))
theorem huX7_solveFlows_3 : ∀ w ∈ u_ws RX3 TX3 17, w ∈ wvX7_solveFlows := fun w h => List.mem_cons_of_mem _ (List.mem_append_right _ (List.mem_append_left _ (List.mem_append_left _ h)))
theorem huX7_solveFlows_7 : ∀ w ∈ u_ws RX7 TX7 11, w ∈ wvX7_solveFlows := fun w h => List.mem_cons_of_mem _ (List.mem_append_right _ (List.mem_append_left _ (List.mem_append_right _ h)))
theorem hbX7_solveFlows_X7_lowerAll : ∀ w ∈ wvX7_lowerAll, w ∈ wvX7_solveFlows := fun w h => List.mem_cons_of_mem _ (List.mem_append_right _ (List.mem_append_right _ (List.mem_append_left _ h)))
theorem hbX7_solveFlows_X7_leadsOn : ∀ w ∈ wvX7_leadsOn, w ∈ wvX7_solveFlows := fun w h => List.mem_cons_of_mem _ (List.mem_append_right _ (List.mem_append_right _ (List.mem_append_right _ (List.mem_append_left _ h))))
theorem hbX7_solveFlows_X9_add : ∀ w ∈ wvX9_add, w ∈ wvX7_solveFlows := fun w h => List.mem_cons_of_mem _ (List.mem_append_right _ (List.mem_append_right _ (List.mem_append_right _ (List.mem_append_right _ (List.mem_append_left _ h)))))
theorem hbX7_solveFlows_X11_has : ∀ w ∈ wvX11_has, w ∈ wvX7_solveFlows := fun w h => List.mem_cons_of_mem _ (List.mem_append_right _ (List.mem_append_right _ (List.mem_append_right _ (List.mem_append_right _ (List.mem_append_right _ (List.mem_append_left _ h))))))
theorem hbX7_solveFlows_X7_loadFlows : ∀ w ∈ wvX7_loadFlows, w ∈ wvX7_solveFlows := fun w h => List.mem_cons_of_mem _ (List.mem_append_right _ (List.mem_append_right _ (List.mem_append_right _ (List.mem_append_right _ (List.mem_append_right _ (List.mem_append_right _ (List.mem_append_left _ h)))))))
theorem hbX7_solveFlows_X7_greatest : ∀ w ∈ wvX7_greatest, w ∈ wvX7_solveFlows := fun w h => List.mem_cons_of_mem _ (List.mem_append_right _ (List.mem_append_right _ (List.mem_append_right _ (List.mem_append_right _ (List.mem_append_right _ (List.mem_append_right _ (List.mem_append_right _ (List.mem_append_left _ h))))))))
theorem hbX7_solveFlows_X3_tell : ∀ w ∈ wvX3_tell, w ∈ wvX7_solveFlows := fun w h => List.mem_cons_of_mem _ (List.mem_append_right _ (List.mem_append_right _ (List.mem_append_right _ (List.mem_append_right _ (List.mem_append_right _ (List.mem_append_right _ (List.mem_append_right _ (List.mem_append_right _ (List.mem_append_left _ h)))))))))
theorem hbX7_solveFlows_J7_fill_53178 : ∀ w ∈ wvJ7_fill_53178, w ∈ wvX7_solveFlows := fun w h => List.mem_cons_of_mem _ (List.mem_append_right _ (List.mem_append_right _ (List.mem_append_right _ (List.mem_append_right _ (List.mem_append_right _ (List.mem_append_right _ (List.mem_append_right _ (List.mem_append_right _ (List.mem_append_right _ h)))))))))
theorem gdX7_solveFlows : ∀ w ∈ wvX7_solveFlows, wkGd w := wkGdC rfl (wkGdA (wkGdL (by decide +kernel)) (wkGdA (wkGdA gdX3 gdX7) (wkGdA gdX7_lowerAll (wkGdA gdX7_leadsOn (wkGdA gdX9_add (wkGdA gdX11_has (wkGdA gdX7_loadFlows (wkGdA gdX7_greatest (wkGdA gdX3_tell gdJ7_fill_53178)))))))))
def rX7_solveFlows_b0 (F : Nat) (k n : Nat) (rec : Nat → Nat → Nat → Nat → Nat → Int32 → wPS → (Unit → wPS → Prop) → Prop) (c s : Nat) (l0A : Nat) (l1A : Nat) (l4I : Int32) (S : wPS) (Φ : (Unit → wPS → Prop)) : Prop :=
  if (gEntry_boundNow S l1A) ≤ l4I then (rX7_lowerAll F l0A S fun v2 S3 => rec 1 c s l0A l1A (0 : Int32) S3 Φ) else (rX7_leadsOn F l0A (0 : Int32) ((gNetworks_nodeCount S l0A) - (1 : Int32)) (0 : Int32) S fun v7 S8 => wkLt (l4I + (1 : Int32)) fun x12 => rec 0 c s l0A l1A x12 S8 Φ)
def rX7_solveFlows_b1 (F : Nat) (k n : Nat) (rec : Nat → Nat → Nat → Nat → Nat → Int32 → wPS → (Unit → wPS → Prop) → Prop) (c s : Nat) (l0A : Nat) (l1A : Nat) (l4I : Int32) (S : wPS) (Φ : (Unit → wPS → Prop)) : Prop :=
  if (gNetworks_itemCount S l0A) ≤ l4I then (Φ () S) else (¬ (l4I < 0 ∨ S.len (wkAd (gNetworks_flow S l0A)) ≤ (l4I).toNatClampNeg) ∧ ∃ k18 n19 : Nat, c + k18 ≤ k ∧ s + n19 ≤ n ∧ rX9_add F k18 n19 (wkAd (gEntry_row S l1A)) (S.rI (wkAd (gNetworks_flow S l0A)) (l4I).toNatClampNeg) S fun v15 S16 => wkLt (l4I + (1 : Int32)) fun x20 => rec 1 (c + k18) (s + n19) l0A l1A x20 S16 Φ)
def rX7_solveFlows_b2 (F : Nat) (k n : Nat) (rec : Nat → Nat → Nat → Nat → Nat → Int32 → wPS → (Unit → wPS → Prop) → Prop) (c s : Nat) (l0A : Nat) (l1A : Nat) (l4I : Int32) (S : wPS) (Φ : (Unit → wPS → Prop)) : Prop :=
  if (gNetworks_nodeCount S l0A) ≤ l4I then (Φ () S) else (rX11_has F (gNetworks_reached S l0A) l4I S fun v22 S23 => if v22 = 0 then (wkLt (l4I + (1 : Int32)) fun x28 => rec 2 c s l0A l1A x28 S23 Φ) else (∃ k32 n33 : Nat, c + k32 ≤ k ∧ s + n33 ≤ n ∧ rX9_add F k32 n33 (wkAd (gEntry_row S23 l1A)) l4I S23 fun v29 S30 => wkLt (l4I + (1 : Int32)) fun x34 => rec 2 (c + k32) (s + n33) l0A l1A x34 S30 Φ))
def rX7_solveFlows_go (F : Nat) (k n : Nat) : Nat → Nat → Nat → Nat → Nat → Nat → Int32 → wPS → (Unit → wPS → Prop) → Prop
  | 0, _, _, _, _, _, _, _, _ => False
  | k' + 1, lab, c, s, l0A, l1A, l4I, S, Φ => if lab = 0 then rX7_solveFlows_b0 F k n (rX7_solveFlows_go F k n k') c s l0A l1A l4I S Φ else if lab = 1 then rX7_solveFlows_b1 F k n (rX7_solveFlows_go F k n k') c s l0A l1A l4I S Φ else if lab = 2 then rX7_solveFlows_b2 F k n (rX7_solveFlows_go F k n k') c s l0A l1A l4I S Φ else False
def rX7_solveFlows_s (F : Nat) (k n : Nat) (rec : Nat → Nat → Nat → Nat → Nat → Int32 → wPS → (Unit → wPS → Prop) → Prop) (l0A : Nat) (l1A : Nat) (S : wPS) (Φ : (Unit → wPS → Prop)) : Prop :=
  rX7_loadFlows F l0A l1A S fun v35 S36 => rX7_greatest F l0A S36 fun v40 S41 => if v40 < (gEntry_boundNow S41 l1A) then (rX3_tell F l1A (0 : Int32) v40 S41 fun v46 S47 => rec 2 0 0 l0A l1A (0 : Int32) S47 Φ) else (rX3_tell F l1A (1 : Int32) v40 S41 fun v51 S52 => rJ7_fill_53178 F (wkAd (gNetworks_flow S52 l0A)) (0 : Int32) S52 fun v56 S57 => rec 0 0 0 l0A l1A (0 : Int32) S57 Φ)
def rX7_solveFlows (F : Nat) (k n : Nat) (l0A : Nat) (l1A : Nat) (S : wPS) (Φ : (Unit → wPS → Prop)) : Prop := rX7_solveFlows_s F k n (rX7_solveFlows_go F k n F) l0A l1A S Φ
set_option maxHeartbeats 4000000 in
set_option maxRecDepth 100000 in
theorem tX7_solveFlows_go {k n : Nat} {l : Launch} {X : wkX} {d F : Nat} {S0 : wPS} {Φ : (Unit → wPS → Prop)} (C : wkC X cX7_solveFlows RX7 5 wvX7_solveFlows) (hR : wkRm X d k n) (hd : 4 ≤ d) (E : wkEnd l X cX7_solveFlows 5 none k n (fun v' S'' => ∃ v : Unit, v' = none ∧ Φ v S'' ∧ wkWF S'' ∧ wkExt S0 S'')) : ∀ k' : Nat, (∀ (c s : Nat), c ≤ k → s ≤ n → ∀ (l0A : Nat) (l1A : Nat) (l4I : Int32) (S : wPS), wkWF S → wkExt S0 S → wkIs S l0A 7 → wkIs S l1A 3 → rX7_solveFlows_go F k n k' 0 c s l0A l1A l4I S Φ → wkGo l X 5 c s 45 S [some (.ref l0A), some (.ref l1A), none, none, some (.int l4I)] []) ∧ (∀ (c s : Nat), c ≤ k → s ≤ n → ∀ (l0A : Nat) (l1A : Nat) (l4I : Int32) (S : wPS), wkWF S → wkExt S0 S → wkIs S l0A 7 → wkIs S l1A 3 → rX7_solveFlows_go F k n k' 1 c s l0A l1A l4I S Φ → wkGo l X 5 c s 80 S [some (.ref l0A), some (.ref l1A), none, none, some (.int l4I)] []) ∧ (∀ (c s : Nat), c ≤ k → s ≤ n → ∀ (l0A : Nat) (l1A : Nat) (l4I : Int32) (S : wPS), wkWF S → wkExt S0 S → wkIs S l0A 7 → wkIs S l1A 3 → rX7_solveFlows_go F k n k' 2 c s l0A l1A l4I S Φ → wkGo l X 5 c s 115 S [some (.ref l0A), some (.ref l1A), none, none, some (.int l4I)] []) := by
  intro k'
  induction k' with
  | zero => exact ⟨fun c s hc hs l0A l1A l4I S hW hE hl0A hl1A h => h.elim, fun c s hc hs l0A l1A l4I S hW hE hl0A hl1A h => h.elim, fun c s hc hs l0A l1A l4I S hW hE hl0A hl1A h => h.elim⟩
  | succ k' ih =>
    refine ⟨?_, ?_, ?_⟩
    · intro c s hc hs l0A l1A l4I S hW hE hl0A hl1A h
      have h : rX7_solveFlows_b0 F k n (rX7_solveFlows_go F k n k') c s l0A l1A l4I S Φ := by
        rw [rX7_solveFlows_go, if_pos (rfl : (0 : Nat) = 0)] at h
        exact h
      unfold rX7_solveFlows_b0 at h
      refine wk_iload C dX7_solveFlows_45 rfl ?_
      refine wk_aload_n C dX7_solveFlows_47 rfl rfl ?_
      refine wk_get C (v := .int (gEntry_boundNow S l1A)) huX7_solveFlows_3 hl1A.1 (fun cy => wAt_3 cy _ hl1A.2) rfl 8 (by decide) (List.mem_of_getElem? (i := 1) rfl) rfl rfl dX7_solveFlows_48 ?_
      refine wk_icmp_ge C (tgt := 73) dX7_solveFlows_51 (by decide) (fun c1 => ?_) (fun c1 => ?_)
      · rw [if_pos c1] at h
        refine wk_aload_n C dX7_solveFlows_73 rfl rfl ?_
        refine wk_callV C hR (As := []) (cnt := 0) (tX7_lowerAll (l := l) hW hl0A h) rfl (wkGoodV (List.mem_of_getElem? (i := 2) rfl) (List.mem_of_getElem? (i := 3) rfl) (List.mem_of_getElem? (i := 4) rfl) (List.mem_of_getElem? (i := 5) rfl) hbX7_solveFlows_X7_lowerAll gdX7_lowerAll) (Nat.le_trans (by decide : 3 + 1 ≤ 4) hd) (by decide) hl0A.1 (fun cy => wAt_7 cy _ hl0A.2) rfl ⟨by decide, by decide, by decide +kernel⟩ rfl rfl (Nat.le_of_ble_eq_true rfl) hc hs dX7_solveFlows_74 (fun v' S3 hp => ?_)
        obtain ⟨v2, rfl, h, hWS3, hXS3⟩ := hp
        refine wk_iconst C (v := 0) dX7_solveFlows_77 (by decide) ?_
        refine wk_istore C (lv' := [some (.ref l0A), some (.ref l1A), none, none, some (.int (0 : Int32))]) dX7_solveFlows_78 (by decide) rfl ?_
        exact wk_forget (lv' := [some (.ref l0A), some (.ref l1A), none, none, some (.int (0 : Int32))]) (wkLs.le ⟨rfl, rfl, rfl, trivial⟩) (ih.2.1 _ _ hc hs _ _ _ _ hWS3 (wkExt.tr hE hXS3) (hXS3 _ _ hl0A) (hXS3 _ _ hl1A) h)
      · rw [if_neg c1] at h
        refine wk_aload_n C dX7_solveFlows_54 rfl rfl ?_
        refine wk_iconst C (v := 0) dX7_solveFlows_55 (by decide) ?_
        refine wk_aload_n C dX7_solveFlows_56 rfl rfl ?_
        refine wk_get C (v := .int (gNetworks_nodeCount S l0A)) huX7_solveFlows_7 hl0A.1 (fun cy => wAt_7 cy _ hl0A.2) rfl 8 (by decide) (List.mem_of_getElem? (i := 6) rfl) rfl rfl dX7_solveFlows_57 ?_
        refine wk_iconst C (v := 1) dX7_solveFlows_60 (by decide) ?_
        refine wk_isub C dX7_solveFlows_61 rfl ?_
        refine wk_iconst C (v := 0) dX7_solveFlows_62 (by decide) ?_
        refine wk_callV C hR (As := [.int (0 : Int32), .int ((gNetworks_nodeCount S l0A) - (1 : Int32)), .int (0 : Int32)]) (cnt := 3) (tX7_leadsOn (l := l) hW hl0A h) rfl (wkGoodV (List.mem_of_getElem? (i := 7) rfl) (List.mem_of_getElem? (i := 8) rfl) (List.mem_of_getElem? (i := 9) rfl) (List.mem_of_getElem? (i := 5) rfl) hbX7_solveFlows_X7_leadsOn gdX7_leadsOn) (Nat.le_trans (by decide : 2 + 1 ≤ 4) hd) (by decide) hl0A.1 (fun cy => wAt_7 cy _ hl0A.2) rfl ⟨by decide, by decide, by decide +kernel⟩ rfl rfl (Nat.le_of_ble_eq_true rfl) hc hs dX7_solveFlows_63 (fun v' S8 hp => ?_)
        obtain ⟨v7, rfl, h, hWS8, hXS8⟩ := hp
        refine wk_pop C dX7_solveFlows_66 rfl ?_
        obtain ⟨x12, ex12, h⟩ := wkLt_some h
        refine wk_iinc C (lv' := [some (.ref l0A), some (.ref l1A), none, none, some (.int x12)]) dX7_solveFlows_67 rfl (by rw [ex12]; rfl) (by decide) rfl ?_
        refine wk_goto C (tgt := 45) dX7_solveFlows_70 (by decide) ?_
        exact wk_forget (lv' := [some (.ref l0A), some (.ref l1A), none, none, some (.int x12)]) (wkLs.le ⟨rfl, rfl, rfl, trivial⟩) (ih.1 _ _ hc hs _ _ _ _ hWS8 (wkExt.tr hE hXS8) (hXS8 _ _ hl0A) (hXS8 _ _ hl1A) h)
    · intro c s hc hs l0A l1A l4I S hW hE hl0A hl1A h
      have h : rX7_solveFlows_b1 F k n (rX7_solveFlows_go F k n k') c s l0A l1A l4I S Φ := by
        rw [rX7_solveFlows_go, if_neg (show ¬ (1 : Nat) = 0 by decide), if_pos (rfl : (1 : Nat) = 1)] at h
        exact h
      unfold rX7_solveFlows_b1 at h
      refine wk_iload C dX7_solveFlows_80 rfl ?_
      refine wk_aload_n C dX7_solveFlows_82 rfl rfl ?_
      refine wk_get C (v := .int (gNetworks_itemCount S l0A)) huX7_solveFlows_7 hl0A.1 (fun cy => wAt_7 cy _ hl0A.2) rfl 9 (by decide) (List.mem_of_getElem? (i := 10) rfl) rfl rfl dX7_solveFlows_83 ?_
      refine wk_icmp_ge C (tgt := 109) dX7_solveFlows_86 (by decide) (fun c13 => ?_) (fun c13 => ?_)
      · rw [if_pos c13] at h
        refine wk_goto C (tgt := 151) dX7_solveFlows_109 (by decide) ?_
        exact E _ _ _ _ _ hc hs dX7_solveFlows_151 ⟨(), rfl, h, hW, hE⟩
      · rw [if_neg c13] at h
        refine wk_aload_n C dX7_solveFlows_89 rfl rfl ?_
        refine wk_get C huX7_solveFlows_3 hl1A.1 (fun cy => wAt_3 cy _ hl1A.2) rfl 13 (by decide) (List.mem_of_getElem? (i := 11) rfl) rfl (congrArg some (congrArg va_rf (wf_Entry_row hW hl1A).1)) dX7_solveFlows_90 ?_
        refine wk_aload_n C dX7_solveFlows_93 rfl rfl ?_
        refine wk_get C huX7_solveFlows_7 hl0A.1 (fun cy => wAt_7 cy _ hl0A.2) rfl 5 (by decide) (List.mem_of_getElem? (i := 12) rfl) rfl (congrArg some (congrArg va_rf (wf_Networks_flow hW hl0A).1)) dX7_solveFlows_94 ?_
        refine wk_iload C dX7_solveFlows_97 rfl ?_
        obtain ⟨i14, h⟩ := h
        refine wk_iald C (wf_Networks_flow hW hl0A).2.1 (wf_Networks_flow hW hl0A).2.2 i14 rfl dX7_solveFlows_99 ?_
        obtain ⟨k18, n19, hk18, hn19, h⟩ := h
        refine wk_callV C hR (As := [.int (S.rI (wkAd (gNetworks_flow S l0A)) (l4I).toNatClampNeg)]) (cnt := 1) (tX9_add (l := l) hW (wf_Entry_row hW hl1A).2 h) rfl (wkGoodV (List.mem_of_getElem? (i := 13) rfl) (List.mem_of_getElem? (i := 14) rfl) (List.mem_of_getElem? (i := 15) rfl) (List.mem_of_getElem? (i := 16) rfl) hbX7_solveFlows_X9_add gdX9_add) (Nat.le_trans (by decide : 2 + 1 ≤ 4) hd) (by decide) (wf_Entry_row hW hl1A).2.1 (fun cy => wAt_9 cy _ (wf_Entry_row hW hl1A).2.2) rfl ⟨by decide, by decide, by decide +kernel⟩ rfl rfl (Nat.le_of_ble_eq_true rfl) hk18 hn19 dX7_solveFlows_100 (fun v' S16 hp => ?_)
        obtain ⟨v15, rfl, h, hWS16, hXS16⟩ := hp
        obtain ⟨x20, ex20, h⟩ := wkLt_some h
        refine wk_iinc C (lv' := [some (.ref l0A), some (.ref l1A), none, none, some (.int x20)]) dX7_solveFlows_103 rfl (by rw [ex20]; rfl) (by decide) rfl ?_
        refine wk_goto C (tgt := 80) dX7_solveFlows_106 (by decide) ?_
        exact wk_forget (lv' := [some (.ref l0A), some (.ref l1A), none, none, some (.int x20)]) (wkLs.le ⟨rfl, rfl, rfl, trivial⟩) (ih.2.1 _ _ hk18 hn19 _ _ _ _ hWS16 (wkExt.tr hE hXS16) (hXS16 _ _ hl0A) (hXS16 _ _ hl1A) h)
    · intro c s hc hs l0A l1A l4I S hW hE hl0A hl1A h
      have h : rX7_solveFlows_b2 F k n (rX7_solveFlows_go F k n k') c s l0A l1A l4I S Φ := by
        rw [rX7_solveFlows_go, if_neg (show ¬ (2 : Nat) = 0 by decide), if_neg (show ¬ (2 : Nat) = 1 by decide), if_pos (rfl : (2 : Nat) = 2)] at h
        exact h
      unfold rX7_solveFlows_b2 at h
      refine wk_iload C dX7_solveFlows_115 rfl ?_
      refine wk_aload_n C dX7_solveFlows_117 rfl rfl ?_
      refine wk_get C (v := .int (gNetworks_nodeCount S l0A)) huX7_solveFlows_7 hl0A.1 (fun cy => wAt_7 cy _ hl0A.2) rfl 8 (by decide) (List.mem_of_getElem? (i := 6) rfl) rfl rfl dX7_solveFlows_118 ?_
      refine wk_icmp_ge C (tgt := 151) dX7_solveFlows_121 (by decide) (fun c21 => ?_) (fun c21 => ?_)
      · rw [if_pos c21] at h
        exact E _ _ _ _ _ hc hs dX7_solveFlows_151 ⟨(), rfl, h, hW, hE⟩
      · rw [if_neg c21] at h
        refine wk_aload_n C dX7_solveFlows_124 rfl rfl ?_
        refine wk_get C (v := .int (gNetworks_reached S l0A)) huX7_solveFlows_7 hl0A.1 (fun cy => wAt_7 cy _ hl0A.2) rfl 10 (by decide) (List.mem_of_getElem? (i := 17) rfl) rfl rfl dX7_solveFlows_125 ?_
        refine wk_iload C dX7_solveFlows_128 rfl ?_
        refine wk_callN C hR (y := yX11_has) (host := "Witnessworks") (As := [.int (gNetworks_reached S l0A), .int l4I]) (cnt := 2) (tX11_has (l := l) hW  h) rfl (fun w h => ⟨hbX7_solveFlows_X11_has w h, gdX11_has w h⟩) (by decide +kernel) (List.mem_of_getElem? (i := 18) rfl) (List.mem_of_getElem? (i := 19) rfl) (Nat.le_trans (by decide : 0 + 1 ≤ 4) hd) (by decide) ⟨by decide, by decide, by decide +kernel⟩ rfl rfl (Nat.le_of_ble_eq_true rfl) hc hs dX7_solveFlows_130 (fun v' S23 hp => ?_)
        obtain ⟨v22, rfl, h, hWS23, hXS23⟩ := hp
        refine wk_if_eq C (tgt := 145) dX7_solveFlows_133 (by decide) (fun c27 => ?_) (fun c27 => ?_)
        · rw [if_pos c27] at h
          obtain ⟨x28, ex28, h⟩ := wkLt_some h
          refine wk_iinc C (lv' := [some (.ref l0A), some (.ref l1A), none, none, some (.int x28)]) dX7_solveFlows_145 rfl (by rw [ex28]; rfl) (by decide) rfl ?_
          refine wk_goto C (tgt := 115) dX7_solveFlows_148 (by decide) ?_
          exact wk_forget (lv' := [some (.ref l0A), some (.ref l1A), none, none, some (.int x28)]) (wkLs.le ⟨rfl, rfl, rfl, trivial⟩) (ih.2.2 _ _ hc hs _ _ _ _ hWS23 (wkExt.tr hE hXS23) (hXS23 _ _ hl0A) (hXS23 _ _ hl1A) h)
        · rw [if_neg c27] at h
          refine wk_aload_n C dX7_solveFlows_136 rfl rfl ?_
          refine wk_get C huX7_solveFlows_3 (hXS23 _ _ hl1A).1 (fun cy => wAt_3 cy _ (hXS23 _ _ hl1A).2) rfl 13 (by decide) (List.mem_of_getElem? (i := 11) rfl) rfl (congrArg some (congrArg va_rf (wf_Entry_row hWS23 (hXS23 _ _ hl1A)).1)) dX7_solveFlows_137 ?_
          refine wk_iload C dX7_solveFlows_140 rfl ?_
          obtain ⟨k32, n33, hk32, hn33, h⟩ := h
          refine wk_callV C hR (As := [.int l4I]) (cnt := 1) (tX9_add (l := l) hWS23 (wf_Entry_row hWS23 (hXS23 _ _ hl1A)).2 h) rfl (wkGoodV (List.mem_of_getElem? (i := 13) rfl) (List.mem_of_getElem? (i := 14) rfl) (List.mem_of_getElem? (i := 15) rfl) (List.mem_of_getElem? (i := 16) rfl) hbX7_solveFlows_X9_add gdX9_add) (Nat.le_trans (by decide : 2 + 1 ≤ 4) hd) (by decide) (wf_Entry_row hWS23 (hXS23 _ _ hl1A)).2.1 (fun cy => wAt_9 cy _ (wf_Entry_row hWS23 (hXS23 _ _ hl1A)).2.2) rfl ⟨by decide, by decide, by decide +kernel⟩ rfl rfl (Nat.le_of_ble_eq_true rfl) hk32 hn33 dX7_solveFlows_142 (fun v' S30 hp => ?_)
          obtain ⟨v29, rfl, h, hWS30, hXS30⟩ := hp
          obtain ⟨x34, ex34, h⟩ := wkLt_some h
          refine wk_iinc C (lv' := [some (.ref l0A), some (.ref l1A), none, none, some (.int x34)]) dX7_solveFlows_145 rfl (by rw [ex34]; rfl) (by decide) rfl ?_
          refine wk_goto C (tgt := 115) dX7_solveFlows_148 (by decide) ?_
          exact wk_forget (lv' := [some (.ref l0A), some (.ref l1A), none, none, some (.int x34)]) (wkLs.le ⟨rfl, rfl, rfl, trivial⟩) (ih.2.2 _ _ hk32 hn33 _ _ _ _ hWS30 (wkExt.tr (wkExt.tr hE hXS23) hXS30) (hXS30 _ _ (hXS23 _ _ hl0A)) (hXS30 _ _ (hXS23 _ _ hl1A)) h)
set_option maxHeartbeats 4000000 in
set_option maxRecDepth 100000 in
theorem tX7_solveFlows {l : Launch} {g : wkG} {F : Nat} {k n : Nat}  {S : wPS} {l0A : Nat} {l1A : Nat} {Φ : (Unit → wPS → Prop)} (hW : wkWF S) (hl0A : wkIs S l0A 7) (hl1A : wkIs S l1A 3) (h : rX7_solveFlows F k n l0A l1A S Φ) : wkMet l g yX7_solveFlows wvX7_solveFlows 4 k n [.ref l0A, .ref l1A] S (fun v' S'' => ∃ v : Unit, v' = none ∧ Φ v S'' ∧ wkWF S'' ∧ wkExt S S'') := by
  refine wkMet_of (ret := none) (by decide) rfl (Nat.le_of_ble_eq_true rfl) (fun X hg C hR E => ?_)
  subst hg
  have hE : wkExt S S := wkExt.rf
  have hd : 4 ≤ 4 := Nat.le_refl _
  show wkGo l X 5 0 0 0 S [some (.ref l0A), some (.ref l1A), none, none, none] []
  have ih := tX7_solveFlows_go (F := F) C hR hd E F
  have h : rX7_solveFlows_s F k n (rX7_solveFlows_go F k n F) l0A l1A S Φ := h
  unfold rX7_solveFlows_s at h
  refine wk_aload_n C dX7_solveFlows_0 rfl rfl ?_
  refine wk_aload_n C dX7_solveFlows_1 rfl rfl ?_
  refine wk_callV C hR (As := [.ref l1A]) (cnt := 1) (tX7_loadFlows (l := l) hW hl0A hl1A h) rfl (wkGoodV (List.mem_of_getElem? (i := 20) rfl) (List.mem_of_getElem? (i := 21) rfl) (List.mem_of_getElem? (i := 22) rfl) (List.mem_of_getElem? (i := 5) rfl) hbX7_solveFlows_X7_loadFlows gdX7_loadFlows) (Nat.le_trans (by decide : 1 + 1 ≤ 4) hd) (by decide) hl0A.1 (fun cy => wAt_7 cy _ hl0A.2) rfl ⟨by decide, by decide, by decide +kernel⟩ rfl rfl (Nat.le_of_ble_eq_true rfl) (Nat.zero_le _) (Nat.zero_le _) dX7_solveFlows_2 (fun v' S36 hp => ?_)
  obtain ⟨v35, rfl, h, hWS36, hXS36⟩ := hp
  refine wk_aload_n C dX7_solveFlows_5 rfl rfl ?_
  refine wk_callV C hR (As := []) (cnt := 0) (tX7_greatest (l := l) hWS36 (hXS36 _ _ hl0A) h) rfl (wkGoodV (List.mem_of_getElem? (i := 23) rfl) (List.mem_of_getElem? (i := 24) rfl) (List.mem_of_getElem? (i := 25) rfl) (List.mem_of_getElem? (i := 5) rfl) hbX7_solveFlows_X7_greatest gdX7_greatest) (Nat.le_trans (by decide : 3 + 1 ≤ 4) hd) (by decide) (hXS36 _ _ hl0A).1 (fun cy => wAt_7 cy _ (hXS36 _ _ hl0A).2) rfl ⟨by decide, by decide, by decide +kernel⟩ rfl rfl (Nat.le_of_ble_eq_true rfl) (Nat.zero_le _) (Nat.zero_le _) dX7_solveFlows_6 (fun v' S41 hp => ?_)
  obtain ⟨v40, rfl, h, hWS41, hXS41⟩ := hp
  refine wk_istore_n C (lv' := [some (.ref l0A), some (.ref l1A), some (.int v40), none, none]) dX7_solveFlows_9 rfl (by decide) rfl ?_
  refine wk_aload_n C dX7_solveFlows_10 rfl rfl ?_
  refine wk_get C (v := .int (gEntry_boundNow S41 l1A)) huX7_solveFlows_3 (hXS41 _ _ (hXS36 _ _ hl1A)).1 (fun cy => wAt_3 cy _ (hXS41 _ _ (hXS36 _ _ hl1A)).2) rfl 8 (by decide) (List.mem_of_getElem? (i := 1) rfl) rfl rfl dX7_solveFlows_11 ?_
  refine wk_iload_n C dX7_solveFlows_14 rfl rfl ?_
  refine wk_icmp_gt C (tgt := 22) dX7_solveFlows_15 (by decide) (fun c45 => ?_) (fun c45 => ?_)
  · rw [if_pos c45] at h
    refine wk_iconst C (v := 0) dX7_solveFlows_22 (by decide) ?_
    refine wk_istore_n C (lv' := [some (.ref l0A), some (.ref l1A), some (.int v40), some (.int (0 : Int32)), none]) dX7_solveFlows_23 rfl (by decide) rfl ?_
    refine wk_aload_n C dX7_solveFlows_24 rfl rfl ?_
    refine wk_iload_n C dX7_solveFlows_25 rfl rfl ?_
    refine wk_iload_n C dX7_solveFlows_26 rfl rfl ?_
    refine wk_callV C hR (As := [.int (0 : Int32), .int v40]) (cnt := 2) (tX3_tell (l := l) hWS41 (hXS41 _ _ (hXS36 _ _ hl1A)) h) rfl (wkGoodV (List.mem_of_getElem? (i := 26) rfl) (List.mem_of_getElem? (i := 27) rfl) (List.mem_of_getElem? (i := 28) rfl) (List.mem_of_getElem? (i := 29) rfl) hbX7_solveFlows_X3_tell gdX3_tell) (Nat.le_trans (by decide : 0 + 1 ≤ 4) hd) (by decide) (hXS41 _ _ (hXS36 _ _ hl1A)).1 (fun cy => wAt_3 cy _ (hXS41 _ _ (hXS36 _ _ hl1A)).2) rfl ⟨by decide, by decide, by decide +kernel⟩ rfl rfl (Nat.le_of_ble_eq_true rfl) (Nat.zero_le _) (Nat.zero_le _) dX7_solveFlows_27 (fun v' S47 hp => ?_)
    obtain ⟨v46, rfl, h, hWS47, hXS47⟩ := hp
    refine wk_iload_n C dX7_solveFlows_30 rfl rfl ?_
    refine wk_if_eq C (tgt := 112) dX7_solveFlows_31 (by decide) (fun _ => ?_) (fun c => False.elim (by revert c; decide))
    refine wk_iconst C (v := 0) dX7_solveFlows_112 (by decide) ?_
    refine wk_istore C (lv' := [some (.ref l0A), some (.ref l1A), some (.int v40), some (.int (0 : Int32)), some (.int (0 : Int32))]) dX7_solveFlows_113 (by decide) rfl ?_
    exact wk_forget (lv' := [some (.ref l0A), some (.ref l1A), none, none, some (.int (0 : Int32))]) (wkLs.le ⟨rfl, rfl, rfl, trivial⟩) (ih.2.2 _ _ (Nat.zero_le _) (Nat.zero_le _) _ _ _ _ hWS47 (wkExt.tr (wkExt.tr (wkExt.tr hE hXS36) hXS41) hXS47) (hXS47 _ _ (hXS41 _ _ (hXS36 _ _ hl0A))) (hXS47 _ _ (hXS41 _ _ (hXS36 _ _ hl1A))) h)
  · rw [if_neg c45] at h
    refine wk_iconst C (v := 1) dX7_solveFlows_18 (by decide) ?_
    refine wk_goto C (tgt := 23) dX7_solveFlows_19 (by decide) ?_
    refine wk_istore_n C (lv' := [some (.ref l0A), some (.ref l1A), some (.int v40), some (.int (1 : Int32)), none]) dX7_solveFlows_23 rfl (by decide) rfl ?_
    refine wk_aload_n C dX7_solveFlows_24 rfl rfl ?_
    refine wk_iload_n C dX7_solveFlows_25 rfl rfl ?_
    refine wk_iload_n C dX7_solveFlows_26 rfl rfl ?_
    refine wk_callV C hR (As := [.int (1 : Int32), .int v40]) (cnt := 2) (tX3_tell (l := l) hWS41 (hXS41 _ _ (hXS36 _ _ hl1A)) h) rfl (wkGoodV (List.mem_of_getElem? (i := 26) rfl) (List.mem_of_getElem? (i := 27) rfl) (List.mem_of_getElem? (i := 28) rfl) (List.mem_of_getElem? (i := 29) rfl) hbX7_solveFlows_X3_tell gdX3_tell) (Nat.le_trans (by decide : 0 + 1 ≤ 4) hd) (by decide) (hXS41 _ _ (hXS36 _ _ hl1A)).1 (fun cy => wAt_3 cy _ (hXS41 _ _ (hXS36 _ _ hl1A)).2) rfl ⟨by decide, by decide, by decide +kernel⟩ rfl rfl (Nat.le_of_ble_eq_true rfl) (Nat.zero_le _) (Nat.zero_le _) dX7_solveFlows_27 (fun v' S52 hp => ?_)
    obtain ⟨v51, rfl, h, hWS52, hXS52⟩ := hp
    refine wk_iload_n C dX7_solveFlows_30 rfl rfl ?_
    refine wk_if_eq C (tgt := 112) dX7_solveFlows_31 (by decide) (fun c => False.elim (by revert c; decide)) (fun _ => ?_)
    refine wk_aload_n C dX7_solveFlows_34 rfl rfl ?_
    refine wk_get C huX7_solveFlows_7 (hXS52 _ _ (hXS41 _ _ (hXS36 _ _ hl0A))).1 (fun cy => wAt_7 cy _ (hXS52 _ _ (hXS41 _ _ (hXS36 _ _ hl0A))).2) rfl 5 (by decide) (List.mem_of_getElem? (i := 12) rfl) rfl (congrArg some (congrArg va_rf (wf_Networks_flow hWS52 (hXS52 _ _ (hXS41 _ _ (hXS36 _ _ hl0A)))).1)) dX7_solveFlows_35 ?_
    refine wk_iconst C (v := 0) dX7_solveFlows_38 (by decide) ?_
    refine wk_callW C hR (As := [.ref (wkAd (gNetworks_flow S52 l0A)), .int (0 : Int32)]) (cnt := 2) (tJ7_fill_53178 (l := l) hWS52 (wf_Networks_flow hWS52 (hXS52 _ _ (hXS41 _ _ (hXS36 _ _ hl0A)))).2 h) rfl (wkGoodW (List.mem_of_getElem? (i := 30) rfl) (List.mem_of_getElem? (i := 31) rfl) (List.mem_of_getElem? (i := 32) rfl) hbX7_solveFlows_J7_fill_53178 gdJ7_fill_53178) (Nat.le_trans (by decide : 0 + 1 ≤ 4) hd) (by decide) ⟨by decide, by decide, by decide +kernel⟩ rfl rfl (Nat.le_of_ble_eq_true rfl) (Nat.zero_le _) (Nat.zero_le _) dX7_solveFlows_39 (fun v' S57 hp => ?_)
    obtain ⟨v56, rfl, h, hWS57, hXS57⟩ := hp
    refine wk_iconst C (v := 0) dX7_solveFlows_42 (by decide) ?_
    refine wk_istore C (lv' := [some (.ref l0A), some (.ref l1A), some (.int v40), some (.int (1 : Int32)), some (.int (0 : Int32))]) dX7_solveFlows_43 (by decide) rfl ?_
    exact wk_forget (lv' := [some (.ref l0A), some (.ref l1A), none, none, some (.int (0 : Int32))]) (wkLs.le ⟨rfl, rfl, rfl, trivial⟩) (ih.1 _ _ (Nat.zero_le _) (Nat.zero_le _) _ _ _ _ hWS57 (wkExt.tr (wkExt.tr (wkExt.tr (wkExt.tr hE hXS36) hXS41) hXS52) hXS57) (hXS57 _ _ (hXS52 _ _ (hXS41 _ _ (hXS36 _ _ hl0A)))) (hXS57 _ _ (hXS52 _ _ (hXS41 _ _ (hXS36 _ _ hl1A)))) h)
def wvX8_solveEquations : List Cond := .code yX8_solveEquations cX8_solveEquations 3 none :: (([.fieldLink RX8 46 "Witnessworks$Entry" "size" "I", .methodLink RX8 50 yX8_takeLeastAmount, .instanceMethod yX8_takeLeastAmount, .selects RX8 yX8_takeLeastAmount yX8_takeLeastAmount, .initialized RX8, .fieldLink RX8 54 "Witnessworks$Entry" "row" "LWitnessworks$Row;", .fieldLink RX8 11 "Witnessworks$Numbers" "point" "[J", .methodLink RX8 58 yX9_add, .instanceMethod yX9_add, .selects RX9 yX9_add yX9_add, .initialized RX9, .methodLink RX8 36 yX8_findPoint, .instanceMethod yX8_findPoint, .selects RX8 yX8_findPoint yX8_findPoint, .methodLink RX8 63 yX8_writeModulus, .static yX8_writeModulus, .methodLink RX8 67 yX9_at, .instanceMethod yX9_at, .selects RX9 yX9_at yX9_at, .methodLink RX8 40 yX3_tell, .instanceMethod yX3_tell, .selects RX3 yX3_tell yX3_tell, .initialized RX3] : List Cond) ++ ((wsX30 ++ (wsX80)) ++ (wvX8_takeLeastAmount ++ (wvX9_add ++ (wvX8_findPoint ++ (wvX8_writeModulus ++ (wvX9_at ++ (wvX3_tell))))))))
theorem huX8_solveEquations_3 : ∀ w ∈ u_ws RX3 TX3 17, w ∈ wvX8_solveEquations := fun w h => List.mem_cons_of_mem _ (List.mem_append_right _ (List.mem_append_left _ (List.mem_append_left _ h)))
theorem huX8_solveEquations_8 : ∀ w ∈ u_ws RX8 TX8 9, w ∈ wvX8_solveEquations := fun w h => List.mem_cons_of_mem _ (List.mem_append_right _ (List.mem_append_left _ (List.mem_append_right _ h)))
theorem hbX8_solveEquations_X8_takeLeastAmount : ∀ w ∈ wvX8_takeLeastAmount, w ∈ wvX8_solveEquations := fun w h => List.mem_cons_of_mem _ (List.mem_append_right _ (List.mem_append_right _ (List.mem_append_left _ h)))
theorem hbX8_solveEquations_X9_add : ∀ w ∈ wvX9_add, w ∈ wvX8_solveEquations := fun w h => List.mem_cons_of_mem _ (List.mem_append_right _ (List.mem_append_right _ (List.mem_append_right _ (List.mem_append_left _ h))))
theorem hbX8_solveEquations_X8_findPoint : ∀ w ∈ wvX8_findPoint, w ∈ wvX8_solveEquations := fun w h => List.mem_cons_of_mem _ (List.mem_append_right _ (List.mem_append_right _ (List.mem_append_right _ (List.mem_append_right _ (List.mem_append_left _ h)))))
theorem hbX8_solveEquations_X8_writeModulus : ∀ w ∈ wvX8_writeModulus, w ∈ wvX8_solveEquations := fun w h => List.mem_cons_of_mem _ (List.mem_append_right _ (List.mem_append_right _ (List.mem_append_right _ (List.mem_append_right _ (List.mem_append_right _ (List.mem_append_left _ h))))))
theorem hbX8_solveEquations_X9_at : ∀ w ∈ wvX9_at, w ∈ wvX8_solveEquations := fun w h => List.mem_cons_of_mem _ (List.mem_append_right _ (List.mem_append_right _ (List.mem_append_right _ (List.mem_append_right _ (List.mem_append_right _ (List.mem_append_right _ (List.mem_append_left _ h)))))))
theorem hbX8_solveEquations_X3_tell : ∀ w ∈ wvX3_tell, w ∈ wvX8_solveEquations := fun w h => List.mem_cons_of_mem _ (List.mem_append_right _ (List.mem_append_right _ (List.mem_append_right _ (List.mem_append_right _ (List.mem_append_right _ (List.mem_append_right _ (List.mem_append_right _ h)))))))
theorem gdX8_solveEquations : ∀ w ∈ wvX8_solveEquations, wkGd w := wkGdC rfl (wkGdA (wkGdL (by decide +kernel)) (wkGdA (wkGdA gdX3 gdX8) (wkGdA gdX8_takeLeastAmount (wkGdA gdX9_add (wkGdA gdX8_findPoint (wkGdA gdX8_writeModulus (wkGdA gdX9_at gdX3_tell)))))))
def rX8_solveEquations_b0 (F : Nat) (k n : Nat) (rec : Nat → Nat → Nat → Nat → Nat → Int32 → wPS → (Unit → wPS → Prop) → Prop) (c s : Nat) (l0A : Nat) (l1A : Nat) (l2I : Int32) (S : wPS) (Φ : (Unit → wPS → Prop)) : Prop :=
  if (gEntry_size S l1A) ≤ l2I then (rec 1 c s l0A l1A (0 : Int32) S Φ) else (rX8_takeLeastAmount F l0A l2I S fun v2 S3 => wkLt (l2I + (1 : Int32)) fun x7 => rec 0 c s l0A l1A x7 S3 Φ)
def rX8_solveEquations_b1 (F : Nat) (k n : Nat) (rec : Nat → Nat → Nat → Nat → Nat → Int32 → wPS → (Unit → wPS → Prop) → Prop) (c s : Nat) (l0A : Nat) (l1A : Nat) (l2I : Int32) (S : wPS) (Φ : (Unit → wPS → Prop)) : Prop :=
  if (gEntry_size S l1A) ≤ l2I then (Φ () S) else (¬ (l2I < 0 ∨ S.len (wkAd (gNumbers_point S l0A)) ≤ (l2I).toNatClampNeg) ∧ ∃ k13 n14 : Nat, c + k13 ≤ k ∧ s + n14 ≤ n ∧ rX9_add F k13 n14 (wkAd (gEntry_row S l1A)) (Int64.toInt32 (S.rJ (wkAd (gNumbers_point S l0A)) (l2I).toNatClampNeg)) S fun v10 S11 => wkLt (l2I + (1 : Int32)) fun x15 => rec 1 (c + k13) (s + n14) l0A l1A x15 S11 Φ)
def rX8_solveEquations_go (F : Nat) (k n : Nat) : Nat → Nat → Nat → Nat → Nat → Nat → Int32 → wPS → (Unit → wPS → Prop) → Prop
  | 0, _, _, _, _, _, _, _, _ => False
  | k' + 1, lab, c, s, l0A, l1A, l2I, S, Φ => if lab = 0 then rX8_solveEquations_b0 F k n (rX8_solveEquations_go F k n k') c s l0A l1A l2I S Φ else if lab = 1 then rX8_solveEquations_b1 F k n (rX8_solveEquations_go F k n k') c s l0A l1A l2I S Φ else False
def rX8_solveEquations_s (F : Nat) (k n : Nat) (rec : Nat → Nat → Nat → Nat → Nat → Int32 → wPS → (Unit → wPS → Prop) → Prop) (l0A : Nat) (l1A : Nat) (S : wPS) (Φ : (Unit → wPS → Prop)) : Prop :=
  rX8_findPoint F l0A l1A S fun v16 S17 => if v16 = 0 then (∃ k25 n26 : Nat, 0 + k25 ≤ k ∧ 0 + n26 ≤ n ∧ rX8_writeModulus F k25 n26 l1A S17 fun v22 S23 => rX9_at F (wkAd (gEntry_row S23 l1A)) (0 : Int32) S23 fun v27 S28 => rX3_tell F l1A (0 : Int32) v27 S28 fun v32 S33 => Φ () S33) else (rX3_tell F l1A (1 : Int32) (0 : Int32) S17 fun v37 S38 => rec 0 0 0 l0A l1A (0 : Int32) S38 Φ)
def rX8_solveEquations (F : Nat) (k n : Nat) (l0A : Nat) (l1A : Nat) (S : wPS) (Φ : (Unit → wPS → Prop)) : Prop := rX8_solveEquations_s F k n (rX8_solveEquations_go F k n F) l0A l1A S Φ
set_option maxHeartbeats 4000000 in
set_option maxRecDepth 100000 in
theorem tX8_solveEquations_go {k n : Nat} {l : Launch} {X : wkX} {d F : Nat} {S0 : wPS} {Φ : (Unit → wPS → Prop)} (C : wkC X cX8_solveEquations RX8 3 wvX8_solveEquations) (hR : wkRm X d k n) (hd : 5 ≤ d) (E : wkEnd l X cX8_solveEquations 3 none k n (fun v' S'' => ∃ v : Unit, v' = none ∧ Φ v S'' ∧ wkWF S'' ∧ wkExt S0 S'')) : ∀ k' : Nat, (∀ (c s : Nat), c ≤ k → s ≤ n → ∀ (l0A : Nat) (l1A : Nat) (l2I : Int32) (S : wPS), wkWF S → wkExt S0 S → wkIs S l0A 8 → wkIs S l1A 3 → rX8_solveEquations_go F k n k' 0 c s l0A l1A l2I S Φ → wkGo l X 3 c s 16 S [some (.ref l0A), some (.ref l1A), some (.int l2I)] []) ∧ (∀ (c s : Nat), c ≤ k → s ≤ n → ∀ (l0A : Nat) (l1A : Nat) (l2I : Int32) (S : wPS), wkWF S → wkExt S0 S → wkIs S l0A 8 → wkIs S l1A 3 → rX8_solveEquations_go F k n k' 1 c s l0A l1A l2I S Φ → wkGo l X 3 c s 37 S [some (.ref l0A), some (.ref l1A), some (.int l2I)] []) := by
  intro k'
  induction k' with
  | zero => exact ⟨fun c s hc hs l0A l1A l2I S hW hE hl0A hl1A h => h.elim, fun c s hc hs l0A l1A l2I S hW hE hl0A hl1A h => h.elim⟩
  | succ k' ih =>
    refine ⟨?_, ?_⟩
    · intro c s hc hs l0A l1A l2I S hW hE hl0A hl1A h
      have h : rX8_solveEquations_b0 F k n (rX8_solveEquations_go F k n k') c s l0A l1A l2I S Φ := by
        rw [rX8_solveEquations_go, if_pos (rfl : (0 : Nat) = 0)] at h
        exact h
      unfold rX8_solveEquations_b0 at h
      refine wk_iload_n C dX8_solveEquations_16 rfl rfl ?_
      refine wk_aload_n C dX8_solveEquations_17 rfl rfl ?_
      refine wk_get C (v := .int (gEntry_size S l1A)) huX8_solveEquations_3 hl1A.1 (fun cy => wAt_3 cy _ hl1A.2) rfl 1 (by decide) (List.mem_of_getElem? (i := 1) rfl) rfl rfl dX8_solveEquations_18 ?_
      refine wk_icmp_ge C (tgt := 35) dX8_solveEquations_21 (by decide) (fun c1 => ?_) (fun c1 => ?_)
      · rw [if_pos c1] at h
        refine wk_iconst C (v := 0) dX8_solveEquations_35 (by decide) ?_
        refine wk_istore_n C (lv' := [some (.ref l0A), some (.ref l1A), some (.int (0 : Int32))]) dX8_solveEquations_36 rfl (by decide) rfl ?_
        exact wk_forget (lv' := [some (.ref l0A), some (.ref l1A), some (.int (0 : Int32))]) (wkLs.le ⟨rfl, rfl, rfl, trivial⟩) (ih.2 _ _ hc hs _ _ _ _ hW hE hl0A hl1A h)
      · rw [if_neg c1] at h
        refine wk_aload_n C dX8_solveEquations_24 rfl rfl ?_
        refine wk_iload_n C dX8_solveEquations_25 rfl rfl ?_
        refine wk_callV C hR (As := [.int l2I]) (cnt := 1) (tX8_takeLeastAmount (l := l) hW hl0A h) rfl (wkGoodV (List.mem_of_getElem? (i := 2) rfl) (List.mem_of_getElem? (i := 3) rfl) (List.mem_of_getElem? (i := 4) rfl) (List.mem_of_getElem? (i := 5) rfl) hbX8_solveEquations_X8_takeLeastAmount gdX8_takeLeastAmount) (Nat.le_trans (by decide : 2 + 1 ≤ 5) hd) (by decide) hl0A.1 (fun cy => wAt_8 cy _ hl0A.2) rfl ⟨by decide, by decide, by decide +kernel⟩ rfl rfl (Nat.le_of_ble_eq_true rfl) hc hs dX8_solveEquations_26 (fun v' S3 hp => ?_)
        obtain ⟨v2, rfl, h, hWS3, hXS3⟩ := hp
        obtain ⟨x7, ex7, h⟩ := wkLt_some h
        refine wk_iinc C (lv' := [some (.ref l0A), some (.ref l1A), some (.int x7)]) dX8_solveEquations_29 rfl (by rw [ex7]; rfl) (by decide) rfl ?_
        refine wk_goto C (tgt := 16) dX8_solveEquations_32 (by decide) ?_
        exact wk_forget (lv' := [some (.ref l0A), some (.ref l1A), some (.int x7)]) (wkLs.le ⟨rfl, rfl, rfl, trivial⟩) (ih.1 _ _ hc hs _ _ _ _ hWS3 (wkExt.tr hE hXS3) (hXS3 _ _ hl0A) (hXS3 _ _ hl1A) h)
    · intro c s hc hs l0A l1A l2I S hW hE hl0A hl1A h
      have h : rX8_solveEquations_b1 F k n (rX8_solveEquations_go F k n k') c s l0A l1A l2I S Φ := by
        rw [rX8_solveEquations_go, if_neg (show ¬ (1 : Nat) = 0 by decide), if_pos (rfl : (1 : Nat) = 1)] at h
        exact h
      unfold rX8_solveEquations_b1 at h
      refine wk_iload_n C dX8_solveEquations_37 rfl rfl ?_
      refine wk_aload_n C dX8_solveEquations_38 rfl rfl ?_
      refine wk_get C (v := .int (gEntry_size S l1A)) huX8_solveEquations_3 hl1A.1 (fun cy => wAt_3 cy _ hl1A.2) rfl 1 (by decide) (List.mem_of_getElem? (i := 1) rfl) rfl rfl dX8_solveEquations_39 ?_
      refine wk_icmp_ge C (tgt := 65) dX8_solveEquations_42 (by decide) (fun c8 => ?_) (fun c8 => ?_)
      · rw [if_pos c8] at h
        refine wk_goto C (tgt := 85) dX8_solveEquations_65 (by decide) ?_
        exact E _ _ _ _ _ hc hs dX8_solveEquations_85 ⟨(), rfl, h, hW, hE⟩
      · rw [if_neg c8] at h
        refine wk_aload_n C dX8_solveEquations_45 rfl rfl ?_
        refine wk_get C huX8_solveEquations_3 hl1A.1 (fun cy => wAt_3 cy _ hl1A.2) rfl 13 (by decide) (List.mem_of_getElem? (i := 6) rfl) rfl (congrArg some (congrArg va_rf (wf_Entry_row hW hl1A).1)) dX8_solveEquations_46 ?_
        refine wk_aload_n C dX8_solveEquations_49 rfl rfl ?_
        refine wk_get C huX8_solveEquations_8 hl0A.1 (fun cy => wAt_8 cy _ hl0A.2) rfl 0 (by decide) (List.mem_of_getElem? (i := 7) rfl) rfl (congrArg some (congrArg va_rf (wf_Numbers_point hW hl0A).1)) dX8_solveEquations_50 ?_
        refine wk_iload_n C dX8_solveEquations_53 rfl rfl ?_
        obtain ⟨i9, h⟩ := h
        refine wk_lald C (wf_Numbers_point hW hl0A).2.1 (wf_Numbers_point hW hl0A).2.2 i9 rfl dX8_solveEquations_54 ?_
        refine wk_l2i C dX8_solveEquations_55 rfl ?_
        obtain ⟨k13, n14, hk13, hn14, h⟩ := h
        refine wk_callV C hR (As := [.int (Int64.toInt32 (S.rJ (wkAd (gNumbers_point S l0A)) (l2I).toNatClampNeg))]) (cnt := 1) (tX9_add (l := l) hW (wf_Entry_row hW hl1A).2 h) rfl (wkGoodV (List.mem_of_getElem? (i := 8) rfl) (List.mem_of_getElem? (i := 9) rfl) (List.mem_of_getElem? (i := 10) rfl) (List.mem_of_getElem? (i := 11) rfl) hbX8_solveEquations_X9_add gdX9_add) (Nat.le_trans (by decide : 2 + 1 ≤ 5) hd) (by decide) (wf_Entry_row hW hl1A).2.1 (fun cy => wAt_9 cy _ (wf_Entry_row hW hl1A).2.2) rfl ⟨by decide, by decide, by decide +kernel⟩ rfl rfl (Nat.le_of_ble_eq_true rfl) hk13 hn14 dX8_solveEquations_56 (fun v' S11 hp => ?_)
        obtain ⟨v10, rfl, h, hWS11, hXS11⟩ := hp
        obtain ⟨x15, ex15, h⟩ := wkLt_some h
        refine wk_iinc C (lv' := [some (.ref l0A), some (.ref l1A), some (.int x15)]) dX8_solveEquations_59 rfl (by rw [ex15]; rfl) (by decide) rfl ?_
        refine wk_goto C (tgt := 37) dX8_solveEquations_62 (by decide) ?_
        exact wk_forget (lv' := [some (.ref l0A), some (.ref l1A), some (.int x15)]) (wkLs.le ⟨rfl, rfl, rfl, trivial⟩) (ih.2 _ _ hk13 hn14 _ _ _ _ hWS11 (wkExt.tr hE hXS11) (hXS11 _ _ hl0A) (hXS11 _ _ hl1A) h)
set_option maxHeartbeats 4000000 in
set_option maxRecDepth 100000 in
theorem tX8_solveEquations {l : Launch} {g : wkG} {F : Nat} {k n : Nat}  {S : wPS} {l0A : Nat} {l1A : Nat} {Φ : (Unit → wPS → Prop)} (hW : wkWF S) (hl0A : wkIs S l0A 8) (hl1A : wkIs S l1A 3) (h : rX8_solveEquations F k n l0A l1A S Φ) : wkMet l g yX8_solveEquations wvX8_solveEquations 5 k n [.ref l0A, .ref l1A] S (fun v' S'' => ∃ v : Unit, v' = none ∧ Φ v S'' ∧ wkWF S'' ∧ wkExt S S'') := by
  refine wkMet_of (ret := none) (by decide) rfl (Nat.le_of_ble_eq_true rfl) (fun X hg C hR E => ?_)
  subst hg
  have hE : wkExt S S := wkExt.rf
  have hd : 5 ≤ 5 := Nat.le_refl _
  show wkGo l X 3 0 0 0 S [some (.ref l0A), some (.ref l1A), none] []
  have ih := tX8_solveEquations_go (F := F) C hR hd E F
  have h : rX8_solveEquations_s F k n (rX8_solveEquations_go F k n F) l0A l1A S Φ := h
  unfold rX8_solveEquations_s at h
  refine wk_aload_n C dX8_solveEquations_0 rfl rfl ?_
  refine wk_aload_n C dX8_solveEquations_1 rfl rfl ?_
  refine wk_callV C hR (As := [.ref l1A]) (cnt := 1) (tX8_findPoint (l := l) hW hl0A hl1A h) rfl (wkGoodV (List.mem_of_getElem? (i := 12) rfl) (List.mem_of_getElem? (i := 13) rfl) (List.mem_of_getElem? (i := 14) rfl) (List.mem_of_getElem? (i := 5) rfl) hbX8_solveEquations_X8_findPoint gdX8_findPoint) (Nat.le_trans (by decide : 3 + 1 ≤ 5) hd) (by decide) hl0A.1 (fun cy => wAt_8 cy _ hl0A.2) rfl ⟨by decide, by decide, by decide +kernel⟩ rfl rfl (Nat.le_of_ble_eq_true rfl) (Nat.zero_le _) (Nat.zero_le _) dX8_solveEquations_2 (fun v' S17 hp => ?_)
  obtain ⟨v16, rfl, h, hWS17, hXS17⟩ := hp
  refine wk_if_eq C (tgt := 68) dX8_solveEquations_5 (by decide) (fun c21 => ?_) (fun c21 => ?_)
  · rw [if_pos c21] at h
    refine wk_aload_n C dX8_solveEquations_68 rfl rfl ?_
    obtain ⟨k25, n26, hk25, hn26, h⟩ := h
    refine wk_callW C hR (As := [.ref l1A]) (cnt := 1) (tX8_writeModulus (l := l) hWS17 (hXS17 _ _ hl1A) h) rfl (wkGoodW (List.mem_of_getElem? (i := 15) rfl) (List.mem_of_getElem? (i := 16) rfl) (List.mem_of_getElem? (i := 5) rfl) hbX8_solveEquations_X8_writeModulus gdX8_writeModulus) (Nat.le_trans (by decide : 4 + 1 ≤ 5) hd) (by decide) ⟨by decide, by decide, by decide +kernel⟩ rfl rfl (Nat.le_of_ble_eq_true rfl) hk25 hn26 dX8_solveEquations_69 (fun v' S23 hp => ?_)
    obtain ⟨v22, rfl, h, hWS23, hXS23⟩ := hp
    refine wk_aload_n C dX8_solveEquations_72 rfl rfl ?_
    refine wk_iconst C (v := 0) dX8_solveEquations_73 (by decide) ?_
    refine wk_aload_n C dX8_solveEquations_74 rfl rfl ?_
    refine wk_get C huX8_solveEquations_3 (hXS23 _ _ (hXS17 _ _ hl1A)).1 (fun cy => wAt_3 cy _ (hXS23 _ _ (hXS17 _ _ hl1A)).2) rfl 13 (by decide) (List.mem_of_getElem? (i := 6) rfl) rfl (congrArg some (congrArg va_rf (wf_Entry_row hWS23 (hXS23 _ _ (hXS17 _ _ hl1A))).1)) dX8_solveEquations_75 ?_
    refine wk_iconst C (v := 0) dX8_solveEquations_78 (by decide) ?_
    refine wk_callV C hR (As := [.int (0 : Int32)]) (cnt := 1) (tX9_at (l := l) hWS23 (wf_Entry_row hWS23 (hXS23 _ _ (hXS17 _ _ hl1A))).2 h) rfl (wkGoodV (List.mem_of_getElem? (i := 17) rfl) (List.mem_of_getElem? (i := 18) rfl) (List.mem_of_getElem? (i := 19) rfl) (List.mem_of_getElem? (i := 11) rfl) hbX8_solveEquations_X9_at gdX9_at) (Nat.le_trans (by decide : 0 + 1 ≤ 5) hd) (by decide) (wf_Entry_row hWS23 (hXS23 _ _ (hXS17 _ _ hl1A))).2.1 (fun cy => wAt_9 cy _ (wf_Entry_row hWS23 (hXS23 _ _ (hXS17 _ _ hl1A))).2.2) rfl ⟨by decide, by decide, by decide +kernel⟩ rfl rfl (Nat.le_of_ble_eq_true rfl) hk25 hn26 dX8_solveEquations_79 (fun v' S28 hp => ?_)
    obtain ⟨v27, rfl, h, hWS28, hXS28⟩ := hp
    refine wk_callV C hR (As := [.int (0 : Int32), .int v27]) (cnt := 2) (tX3_tell (l := l) hWS28 (hXS28 _ _ (hXS23 _ _ (hXS17 _ _ hl1A))) h) rfl (wkGoodV (List.mem_of_getElem? (i := 20) rfl) (List.mem_of_getElem? (i := 21) rfl) (List.mem_of_getElem? (i := 22) rfl) (List.mem_of_getElem? (i := 23) rfl) hbX8_solveEquations_X3_tell gdX3_tell) (Nat.le_trans (by decide : 0 + 1 ≤ 5) hd) (by decide) (hXS28 _ _ (hXS23 _ _ (hXS17 _ _ hl1A))).1 (fun cy => wAt_3 cy _ (hXS28 _ _ (hXS23 _ _ (hXS17 _ _ hl1A))).2) rfl ⟨by decide, by decide, by decide +kernel⟩ rfl rfl (Nat.le_of_ble_eq_true rfl) hk25 hn26 dX8_solveEquations_82 (fun v' S33 hp => ?_)
    obtain ⟨v32, rfl, h, hWS33, hXS33⟩ := hp
    exact E _ _ _ _ _ hk25 hn26 dX8_solveEquations_85 ⟨(), rfl, h, hWS33, (wkExt.tr (wkExt.tr (wkExt.tr (wkExt.tr hE hXS17) hXS23) hXS28) hXS33)⟩
  · rw [if_neg c21] at h
    refine wk_aload_n C dX8_solveEquations_8 rfl rfl ?_
    refine wk_iconst C (v := 1) dX8_solveEquations_9 (by decide) ?_
    refine wk_iconst C (v := 0) dX8_solveEquations_10 (by decide) ?_
    refine wk_callV C hR (As := [.int (1 : Int32), .int (0 : Int32)]) (cnt := 2) (tX3_tell (l := l) hWS17 (hXS17 _ _ hl1A) h) rfl (wkGoodV (List.mem_of_getElem? (i := 20) rfl) (List.mem_of_getElem? (i := 21) rfl) (List.mem_of_getElem? (i := 22) rfl) (List.mem_of_getElem? (i := 23) rfl) hbX8_solveEquations_X3_tell gdX3_tell) (Nat.le_trans (by decide : 0 + 1 ≤ 5) hd) (by decide) (hXS17 _ _ hl1A).1 (fun cy => wAt_3 cy _ (hXS17 _ _ hl1A).2) rfl ⟨by decide, by decide, by decide +kernel⟩ rfl rfl (Nat.le_of_ble_eq_true rfl) (Nat.zero_le _) (Nat.zero_le _) dX8_solveEquations_11 (fun v' S38 hp => ?_)
    obtain ⟨v37, rfl, h, hWS38, hXS38⟩ := hp
    refine wk_iconst C (v := 0) dX8_solveEquations_14 (by decide) ?_
    refine wk_istore_n C (lv' := [some (.ref l0A), some (.ref l1A), some (.int (0 : Int32))]) dX8_solveEquations_15 rfl (by decide) rfl ?_
    exact wk_forget (lv' := [some (.ref l0A), some (.ref l1A), some (.int (0 : Int32))]) (wkLs.le ⟨rfl, rfl, rfl, trivial⟩) (ih.1 _ _ (Nat.zero_le _) (Nat.zero_le _) _ _ _ _ hWS38 (wkExt.tr (wkExt.tr hE hXS17) hXS38) (hXS38 _ _ (hXS17 _ _ hl0A)) (hXS38 _ _ (hXS17 _ _ hl1A)) h)
