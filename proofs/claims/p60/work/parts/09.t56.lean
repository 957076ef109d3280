def wvX4_bringNodes : List Cond := .code yX4_bringNodes cX4_bringNodes 7 none :: (([.fieldLink RX4 191 "Witnessworks$Entry" "size" "I", .methodLink RX4 305 yX9_holds, .instanceMethod yX9_holds, .selects RX9 yX9_holds yX9_holds, .initialized RX9, .static yX11_has, .initialized RX11, .methodLink RX4 289 yX9_add, .instanceMethod yX9_add, .selects RX9 yX9_add yX9_add, .methodLink RX4 236 yX4_leftSide, .instanceMethod yX4_leftSide, .selects RX4 yX4_leftSide yX4_leftSide, .initialized RX4] : List Cond) ++ ((wsX30) ++ (wvX9_holds ++ (wvX11_has ++ (wvX9_add ++ (wvX4_leftSide))))))
theorem huX4_bringNodes_3 : ∀ w ∈ u_ws RX3 TX3 17, w ∈ wvX4_bringNodes := fun w h => List.mem_cons_of_mem _ (List.mem_append_right _ (List.mem_append_left _ h))
theorem hbX4_bringNodes_X9_holds : ∀ w ∈ wvX9_holds, w ∈ wvX4_bringNodes := fun w h => List.mem_cons_of_mem _ (List.mem_append_right _ (List.mem_append_right _ (List.mem_append_left _ h)))
theorem hbX4_bringNodes_X11_has : ∀ w ∈ wvX11_has, w ∈ wvX4_bringNodes := fun w h => List.mem_cons_of_mem _ (List.mem_append_right _ (List.mem_append_right _ (List.mem_append_right _ (List.mem_append_left _ h))))
theorem hbX4_bringNodes_X9_add : ∀ w ∈ wvX9_add, w ∈ wvX4_bringNodes := fun w h => List.mem_cons_of_mem _ (List.mem_append_right _ (List.mem_append_right _ (List.mem_append_right _ (List.mem_append_right _ (List.mem_append_left _ h)))))
theorem hbX4_bringNodes_X4_leftSide : ∀ w ∈ wvX4_leftSide, w ∈ wvX4_bringNodes := fun w h => List.mem_cons_of_mem _ (List.mem_append_right _ (List.mem_append_right _ (List.mem_append_right _ (List.mem_append_right _ (List.mem_append_right _ h)))))
theorem gdX4_bringNodes : ∀ w ∈ wvX4_bringNodes, wkGd w := wkGdC rfl (wkGdA (wkGdL (by decide +kernel)) (wkGdA gdX3 (wkGdA gdX9_holds (wkGdA gdX11_has (wkGdA gdX9_add gdX4_leftSide)))))
def rX4_bringNodes_b0 (F : Nat) (k n : Nat) (rec : Nat → Nat → Nat → Nat → Nat → Nat → Int32 → Int32 → wPS → (Unit → wPS → Prop) → Prop) (c s : Nat) (l1A : Nat) (l2A : Nat) (l3A : Nat) (l4I : Int32) (l5I : Int32) (S : wPS) (Φ : (Unit → wPS → Prop)) : Prop :=
  if (gEntry_size S l2A) ≤ l5I then (Φ () S) else (rX9_holds F l1A (0 : Int32) (l5I + (1 : Int32)) S fun v2 S3 => rX11_has F l4I l5I S3 fun v7 S8 => if v7 = v2 then (wkLt (l5I + (1 : Int32)) fun x13 => rec 0 c s l1A l2A l3A l4I x13 S8 Φ) else (∃ k17 n18 : Nat, c + k17 ≤ k ∧ s + n18 ≤ n ∧ rX9_add F k17 n18 l3A l5I S8 fun v14 S15 => wkLt (l5I + (1 : Int32)) fun x19 => rec 0 (c + k17) (s + n18) l1A l2A l3A l4I x19 S15 Φ))
def rX4_bringNodes_go (F : Nat) (k n : Nat) : Nat → Nat → Nat → Nat → Nat → Nat → Nat → Int32 → Int32 → wPS → (Unit → wPS → Prop) → Prop
  | 0, _, _, _, _, _, _, _, _, _, _ => False
  | k' + 1, lab, c, s, l1A, l2A, l3A, l4I, l5I, S, Φ => if lab = 0 then rX4_bringNodes_b0 F k n (rX4_bringNodes_go F k n k') c s l1A l2A l3A l4I l5I S Φ else False
def rX4_bringNodes_s (F : Nat) (k n : Nat) (rec : Nat → Nat → Nat → Nat → Nat → Nat → Int32 → Int32 → wPS → (Unit → wPS → Prop) → Prop) (l0A : Nat) (l1A : Nat) (l2A : Nat) (l3A : Nat) (S : wPS) (Φ : (Unit → wPS → Prop)) : Prop :=
  rX4_leftSide F l0A l2A S fun v20 S21 => rec 0 0 0 l1A l2A l3A v20 (0 : Int32) S21 Φ
def rX4_bringNodes (F : Nat) (k n : Nat) (l0A : Nat) (l1A : Nat) (l2A : Nat) (l3A : Nat) (S : wPS) (Φ : (Unit → wPS → Prop)) : Prop := rX4_bringNodes_s F k n (rX4_bringNodes_go F k n F) l0A l1A l2A l3A S Φ
set_option maxHeartbeats 4000000 in
set_option maxRecDepth 100000 in
theorem tX4_bringNodes_go {k n : Nat} {l : Launch} {X : wkX} {d F : Nat} {S0 : wPS} {Φ : (Unit → wPS → Prop)} (C : wkC X cX4_bringNodes RX4 7 wvX4_bringNodes) (hR : wkRm X d k n) (hd : 3 ≤ d) (E : wkEnd l X cX4_bringNodes 7 none k n (fun v' S'' => ∃ v : Unit, v' = none ∧ Φ v S'' ∧ wkWF S'' ∧ wkExt S0 S'')) : ∀ k' : Nat, (∀ (c s : Nat), c ≤ k → s ≤ n → ∀ (l1A : Nat) (l2A : Nat) (l3A : Nat) (l4I : Int32) (l5I : Int32) (S : wPS), wkWF S → wkExt S0 S → wkIs S l1A 9 → wkIs S l2A 3 → wkIs S l3A 9 → rX4_bringNodes_go F k n k' 0 c s l1A l2A l3A l4I l5I S Φ → wkGo l X 7 c s 10 S [none, some (.ref l1A), some (.ref l2A), some (.ref l3A), some (.int l4I), some (.int l5I), none] []) := by
  intro k'
  induction k' with
  | zero => exact fun c s hc hs l1A l2A l3A l4I l5I S hW hE hl1A hl2A hl3A h => h.elim
  | succ k' ih =>
    · intro c s hc hs l1A l2A l3A l4I l5I S hW hE hl1A hl2A hl3A h
      have h : rX4_bringNodes_b0 F k n (rX4_bringNodes_go F k n k') c s l1A l2A l3A l4I l5I S Φ := by
        rw [rX4_bringNodes_go, if_pos (rfl : (0 : Nat) = 0)] at h
        exact h
      unfold rX4_bringNodes_b0 at h
      refine wk_iload C dX4_bringNodes_10 rfl ?_
      refine wk_aload_n C dX4_bringNodes_12 rfl rfl ?_
      refine wk_get C (v := .int (gEntry_size S l2A)) huX4_bringNodes_3 hl2A.1 (fun cy => wAt_3 cy _ hl2A.2) rfl 1 (by decide) (List.mem_of_getElem? (i := 1) rfl) rfl rfl dX4_bringNodes_13 ?_
      refine wk_icmp_ge C (tgt := 54) dX4_bringNodes_16 (by decide) (fun c1 => ?_) (fun c1 => ?_)
      · rw [if_pos c1] at h
        exact E _ _ _ _ _ hc hs dX4_bringNodes_54 ⟨(), rfl, h, hW, hE⟩
      · rw [if_neg c1] at h
        refine wk_aload_n C dX4_bringNodes_19 rfl rfl ?_
        refine wk_iconst C (v := 0) dX4_bringNodes_20 (by decide) ?_
        refine wk_iload C dX4_bringNodes_21 rfl ?_
        refine wk_iconst C (v := 1) dX4_bringNodes_23 (by decide) ?_
        refine wk_iadd C dX4_bringNodes_24 rfl ?_
        refine wk_callV C hR (As := [.int (0 : Int32), .int (l5I + (1 : Int32))]) (cnt := 2) (tX9_holds (l := l) hW hl1A h) rfl (wkGoodV (List.mem_of_getElem? (i := 2) rfl) (List.mem_of_getElem? (i := 3) rfl) (List.mem_of_getElem? (i := 4) rfl) (List.mem_of_getElem? (i := 5) rfl) hbX4_bringNodes_X9_holds gdX9_holds) (Nat.le_trans (by decide : 0 + 1 ≤ 3) hd) (by decide) hl1A.1 (fun cy => wAt_9 cy _ hl1A.2) rfl ⟨by decide, by decide, by decide +kernel⟩ rfl rfl (Nat.le_of_ble_eq_true rfl) hc hs dX4_bringNodes_25 (fun v' S3 hp => ?_)
        obtain ⟨v2, rfl, h, hWS3, hXS3⟩ := hp
        refine wk_istore C (lv' := [none, some (.ref l1A), some (.ref l2A), some (.ref l3A), some (.int l4I), some (.int l5I), some (.int v2)]) dX4_bringNodes_28 (by decide) rfl ?_
        refine wk_iload C dX4_bringNodes_30 rfl ?_
        refine wk_iload C dX4_bringNodes_32 rfl ?_
        refine wk_callN C hR (y := yX11_has) (host := "Witnessworks") (As := [.int l4I, .int l5I]) (cnt := 2) (tX11_has (l := l) hWS3  h) rfl (fun w h => ⟨hbX4_bringNodes_X11_has w h, gdX11_has w h⟩) (by decide +kernel) (List.mem_of_getElem? (i := 6) rfl) (List.mem_of_getElem? (i := 7) rfl) (Nat.le_trans (by decide : 0 + 1 ≤ 3) hd) (by decide) ⟨by decide, by decide, by decide +kernel⟩ rfl rfl (Nat.le_of_ble_eq_true rfl) hc hs dX4_bringNodes_34 (fun v' S8 hp => ?_)
        obtain ⟨v7, rfl, h, hWS8, hXS8⟩ := hp
        refine wk_iload C dX4_bringNodes_37 rfl ?_
        refine wk_icmp_eq C (tgt := 48) dX4_bringNodes_39 (by decide) (fun c12 => ?_) (fun c12 => ?_)
        · rw [if_pos c12] at h
          obtain ⟨x13, ex13, h⟩ := wkLt_some h
          refine wk_iinc C (lv' := [none, some (.ref l1A), some (.ref l2A), some (.ref l3A), some (.int l4I), some (.int x13), some (.int v2)]) dX4_bringNodes_48 rfl (by rw [ex13]; rfl) (by decide) rfl ?_
          refine wk_goto C (tgt := 10) dX4_bringNodes_51 (by decide) ?_
          exact wk_forget (lv' := [none, some (.ref l1A), some (.ref l2A), some (.ref l3A), some (.int l4I), some (.int x13), none]) (wkLs.le ⟨rfl, rfl, rfl, rfl, rfl, trivial⟩) (ih _ _ hc hs _ _ _ _ _ _ hWS8 (wkExt.tr (wkExt.tr hE hXS3) hXS8) (hXS8 _ _ (hXS3 _ _ hl1A)) (hXS8 _ _ (hXS3 _ _ hl2A)) (hXS8 _ _ (hXS3 _ _ hl3A)) h)
        · rw [if_neg c12] at h
          refine wk_aload_n C dX4_bringNodes_42 rfl rfl ?_
          refine wk_iload C dX4_bringNodes_43 rfl ?_
          obtain ⟨k17, n18, hk17, hn18, h⟩ := h
          refine wk_callV C hR (As := [.int l5I]) (cnt := 1) (tX9_add (l := l) hWS8 (hXS8 _ _ (hXS3 _ _ hl3A)) h) rfl (wkGoodV (List.mem_of_getElem? (i := 8) rfl) (List.mem_of_getElem? (i := 9) rfl) (List.mem_of_getElem? (i := 10) rfl) (List.mem_of_getElem? (i := 5) rfl) hbX4_bringNodes_X9_add gdX9_add) (Nat.le_trans (by decide : 2 + 1 ≤ 3) hd) (by decide) (hXS8 _ _ (hXS3 _ _ hl3A)).1 (fun cy => wAt_9 cy _ (hXS8 _ _ (hXS3 _ _ hl3A)).2) rfl ⟨by decide, by decide, by decide +kernel⟩ rfl rfl (Nat.le_of_ble_eq_true rfl) hk17 hn18 dX4_bringNodes_45 (fun v' S15 hp => ?_)
          obtain ⟨v14, rfl, h, hWS15, hXS15⟩ := hp
          obtain ⟨x19, ex19, h⟩ := wkLt_some h
          refine wk_iinc C (lv' := [none, some (.ref l1A), some (.ref l2A), some (.ref l3A), some (.int l4I), some (.int x19), some (.int v2)]) dX4_bringNodes_48 rfl (by rw [ex19]; rfl) (by decide) rfl ?_
          refine wk_goto C (tgt := 10) dX4_bringNodes_51 (by decide) ?_
          exact wk_forget (lv' := [none, some (.ref l1A), some (.ref l2A), some (.ref l3A), some (.int l4I), some (.int x19), none]) (wkLs.le ⟨rfl, rfl, rfl, rfl, rfl, trivial⟩) (ih _ _ hk17 hn18 _ _ _ _ _ _ hWS15 (wkExt.tr (wkExt.tr (wkExt.tr hE hXS3) hXS8) hXS15) (hXS15 _ _ (hXS8 _ _ (hXS3 _ _ hl1A))) (hXS15 _ _ (hXS8 _ _ (hXS3 _ _ hl2A))) (hXS15 _ _ (hXS8 _ _ (hXS3 _ _ hl3A))) h)
set_option maxHeartbeats 4000000 in
set_option maxRecDepth 100000 in
theorem tX4_bringNodes {l : Launch} {g : wkG} {F : Nat} {k n : Nat}  {S : wPS} {l0A : Nat} {l1A : Nat} {l2A : Nat} {l3A : Nat} {Φ : (Unit → wPS → Prop)} (hW : wkWF S) (hl0A : wkIs S l0A 4) (hl1A : wkIs S l1A 9) (hl2A : wkIs S l2A 3) (hl3A : wkIs S l3A 9) (h : rX4_bringNodes F k n l0A l1A l2A l3A S Φ) : wkMet l g yX4_bringNodes wvX4_bringNodes 3 k n [.ref l0A, .ref l1A, .ref l2A, .ref l3A] S (fun v' S'' => ∃ v : Unit, v' = none ∧ Φ v S'' ∧ wkWF S'' ∧ wkExt S S'') := by
  refine wkMet_of (ret := none) (by decide) rfl (Nat.le_of_ble_eq_true rfl) (fun X hg C hR E => ?_)
  subst hg
  have hE : wkExt S S := wkExt.rf
  have hd : 3 ≤ 3 := Nat.le_refl _
  show wkGo l X 7 0 0 0 S [some (.ref l0A), some (.ref l1A), some (.ref l2A), some (.ref l3A), none, none, none] []
  have ih := tX4_bringNodes_go (F := F) C hR hd E F
  have h : rX4_bringNodes_s F k n (rX4_bringNodes_go F k n F) l0A l1A l2A l3A S Φ := h
  unfold rX4_bringNodes_s at h
  refine wk_aload_n C dX4_bringNodes_0 rfl rfl ?_
  refine wk_aload_n C dX4_bringNodes_1 rfl rfl ?_
  refine wk_callV C hR (As := [.ref l2A]) (cnt := 1) (tX4_leftSide (l := l) hW hl0A hl2A h) rfl (wkGoodV (List.mem_of_getElem? (i := 11) rfl) (List.mem_of_getElem? (i := 12) rfl) (List.mem_of_getElem? (i := 13) rfl) (List.mem_of_getElem? (i := 14) rfl) hbX4_bringNodes_X4_leftSide gdX4_leftSide) (Nat.le_trans (by decide : 2 + 1 ≤ 3) hd) (by decide) hl0A.1 (fun cy => wAt_4 cy _ hl0A.2) rfl ⟨by decide, by decide, by decide +kernel⟩ rfl rfl (Nat.le_of_ble_eq_true rfl) (Nat.zero_le _) (Nat.zero_le _) dX4_bringNodes_2 (fun v' S21 hp => ?_)
  obtain ⟨v20, rfl, h, hWS21, hXS21⟩ := hp
  refine wk_istore C (lv' := [some (.ref l0A), some (.ref l1A), some (.ref l2A), some (.ref l3A), some (.int v20), none, none]) dX4_bringNodes_5 (by decide) rfl ?_
  refine wk_iconst C (v := 0) dX4_bringNodes_7 (by decide) ?_
  refine wk_istore C (lv' := [some (.ref l0A), some (.ref l1A), some (.ref l2A), some (.ref l3A), some (.int v20), some (.int (0 : Int32)), none]) dX4_bringNodes_8 (by decide) rfl ?_
  exact wk_forget (lv' := [none, some (.ref l1A), some (.ref l2A), some (.ref l3A), some (.int v20), some (.int (0 : Int32)), none]) (wkLs.le ⟨rfl, rfl, rfl, rfl, rfl, trivial⟩) (ih _ _ (Nat.zero_le _) (Nat.zero_le _) _ _ _ _ _ _ hWS21 (wkExt.tr hE hXS21) (hXS21 _ _ hl1A) (hXS21 _ _ hl2A) (hXS21 _ _ hl3A) h)
def wvX5_loadUnknowns : List Cond := .code yX5_loadUnknowns cX5_loadUnknowns 5 none :: (([.fieldLink RX5 83 "Witnessworks$Inequalities" "rows" "I", .methodLink RX5 100 yX5_begin, .instanceMethod yX5_begin, .selects RX5 yX5_begin yX5_begin, .initialized RX5, .methodLink RX5 92 yX5_limitOf, .static yX5_limitOf, .fieldLink RX5 37 "Witnessworks$Entry" "size" "I", .fieldLink RX5 13 "Witnessworks$Inequalities" "table" "[[J", .fieldLink RX5 86 "Witnessworks$Inequalities" "columns" "I", .methodLink RX5 96 yX5_times, .static yX5_times, .fieldLink RX5 23 "Witnessworks$Entry" "itemCount" "I", .methodLink RX5 89 yX5_clearTable, .instanceMethod yX5_clearTable, .selects RX5 yX5_clearTable yX5_clearTable] : List Cond) ++ ((wsX50 ++ (wsX30)) ++ (wvX5_begin ++ (wvX5_limitOf ++ (wvX5_times ++ (wvX5_clearTable))))))
theorem huX5_loadUnknowns_5 : ∀ w ∈ u_ws RX5 TX5 7, w ∈ wvX5_loadUnknowns := fun w h => List.mem_cons_of_mem _ (List.mem_append_right _ (List.mem_append_left _ (List.mem_append_left _ h)))
theorem huX5_loadUnknowns_3 : ∀ w ∈ u_ws RX3 TX3 17, w ∈ wvX5_loadUnknowns := fun w h => List.mem_cons_of_mem _ (List.mem_append_right _ (List.mem_append_left _ (List.mem_append_right _ h)))
theorem hbX5_loadUnknowns_X5_begin : ∀ w ∈ wvX5_begin, w ∈ wvX5_loadUnknowns := fun w h => List.mem_cons_of_mem _ (List.mem_append_right _ (List.mem_append_right _ (List.mem_append_left _ h)))
theorem hbX5_loadUnknowns_X5_limitOf : ∀ w ∈ wvX5_limitOf, w ∈ wvX5_loadUnknowns := fun w h => List.mem_cons_of_mem _ (List.mem_append_right _ (List.mem_append_right _ (List.mem_append_right _ (List.mem_append_left _ h))))
theorem hbX5_loadUnknowns_X5_times : ∀ w ∈ wvX5_times, w ∈ wvX5_loadUnknowns := fun w h => List.mem_cons_of_mem _ (List.mem_append_right _ (List.mem_append_right _ (List.mem_append_right _ (List.mem_append_right _ (List.mem_append_left _ h)))))
theorem hbX5_loadUnknowns_X5_clearTable : ∀ w ∈ wvX5_clearTable, w ∈ wvX5_loadUnknowns := fun w h => List.mem_cons_of_mem _ (List.mem_append_right _ (List.mem_append_right _ (List.mem_append_right _ (List.mem_append_right _ (List.mem_append_right _ h)))))
theorem gdX5_loadUnknowns : ∀ w ∈ wvX5_loadUnknowns, wkGd w := wkGdC rfl (wkGdA (wkGdL (by decide +kernel)) (wkGdA (wkGdA gdX5 gdX3) (wkGdA gdX5_begin (wkGdA gdX5_limitOf (wkGdA gdX5_times gdX5_clearTable)))))
def rX5_loadUnknowns_b0 (F : Nat) (rec : Nat → Nat → Nat → Int32 → Int32 → Int32 → wPS → (Unit → wPS → Prop) → Prop) (l0A : Nat) (l1A : Nat) (l2I : Int32) (S : wPS) (Φ : (Unit → wPS → Prop)) : Prop :=
  if (gInequalities_rows S l0A) ≤ l2I then (rX5_begin F l0A S fun v2 S3 => Φ () S3) else (rX5_limitOf F l1A l2I S fun v7 S8 => if 0 ≤ v7 then (rec 1 l0A l1A l2I (1 : Int32) (0 : Int32) S8 Φ) else (rec 1 l0A l1A l2I (-1 : Int32) (0 : Int32) S8 Φ))
def rX5_loadUnknowns_b1 (F : Nat) (rec : Nat → Nat → Nat → Int32 → Int32 → Int32 → wPS → (Unit → wPS → Prop) → Prop) (l0A : Nat) (l1A : Nat) (l2I : Int32) (l3I : Int32) (l4I : Int32) (S : wPS) (Φ : (Unit → wPS → Prop)) : Prop :=
  if (gEntry_size S l1A) ≤ l4I then (¬ (l2I < 0 ∨ S.len (wkAd (gInequalities_table S l0A)) ≤ (l2I).toNatClampNeg) ∧ ¬ (((gEntry_size S l1A) + l2I) < 0 ∨ S.len (wkAd (S.rA (wkAd (gInequalities_table S l0A)) (l2I).toNatClampNeg)) ≤ (((gEntry_size S l1A) + l2I)).toNatClampNeg) ∧ wkLt (wuJ S (wkAd (S.rA (wkAd (gInequalities_table S l0A)) (l2I).toNatClampNeg)) ((gEntry_size S l1A) + l2I) (Int32.toInt64 l3I)) fun S17 => ¬ (l2I < 0 ∨ S17.len (wkAd (gInequalities_table S17 l0A)) ≤ (l2I).toNatClampNeg) ∧ rX5_limitOf F l1A l2I S17 fun v20 S21 => ¬ ((gInequalities_columns S17 l0A) < 0 ∨ S21.len (wkAd (S17.rA (wkAd (gInequalities_table S17 l0A)) (l2I).toNatClampNeg)) ≤ ((gInequalities_columns S17 l0A)).toNatClampNeg) ∧ wkLt (wuJ S21 (wkAd (S17.rA (wkAd (gInequalities_table S17 l0A)) (l2I).toNatClampNeg)) (gInequalities_columns S17 l0A) (Int32.toInt64 (l3I * v20))) fun S26 => wkLt (l2I + (1 : Int32)) fun x27 => rec 0 l0A l1A x27 0 0 S26 Φ) else (¬ (l2I < 0 ∨ S.len (wkAd (gInequalities_table S l0A)) ≤ (l2I).toNatClampNeg) ∧ rX5_times F l1A l2I l4I S fun v30 S31 => ¬ (l4I < 0 ∨ S31.len (wkAd (S.rA (wkAd (gInequalities_table S l0A)) (l2I).toNatClampNeg)) ≤ (l4I).toNatClampNeg) ∧ wkLt (wuJ S31 (wkAd (S.rA (wkAd (gInequalities_table S l0A)) (l2I).toNatClampNeg)) l4I (Int32.toInt64 (l3I * v30))) fun S36 => wkLt (l4I + (1 : Int32)) fun x37 => rec 1 l0A l1A l2I l3I x37 S36 Φ)
def rX5_loadUnknowns_go (F : Nat) : Nat → Nat → Nat → Nat → Int32 → Int32 → Int32 → wPS → (Unit → wPS → Prop) → Prop
  | 0, _, _, _, _, _, _, _, _ => False
  | k' + 1, lab, l0A, l1A, l2I, l3I, l4I, S, Φ => if lab = 0 then rX5_loadUnknowns_b0 F (rX5_loadUnknowns_go F k') l0A l1A l2I S Φ else if lab = 1 then rX5_loadUnknowns_b1 F (rX5_loadUnknowns_go F k') l0A l1A l2I l3I l4I S Φ else False
def rX5_loadUnknowns_s (F : Nat) (rec : Nat → Nat → Nat → Int32 → Int32 → Int32 → wPS → (Unit → wPS → Prop) → Prop) (l0A : Nat) (l1A : Nat) (S : wPS) (Φ : (Unit → wPS → Prop)) : Prop :=
  wkLt (wu_Inequalities_rows S l0A ((gEntry_itemCount S l1A) + (1 : Int32))) fun S38 => wkLt (wu_Inequalities_columns S38 l0A ((gEntry_size S38 l1A) + (gInequalities_rows S38 l0A))) fun S39 => rX5_clearTable F l0A S39 fun v40 S41 => rec 0 l0A l1A (0 : Int32) 0 0 S41 Φ
def rX5_loadUnknowns (F : Nat) (l0A : Nat) (l1A : Nat) (S : wPS) (Φ : (Unit → wPS → Prop)) : Prop := rX5_loadUnknowns_s F (rX5_loadUnknowns_go F F) l0A l1A S Φ
set_option maxHeartbeats 4000000 in
set_option maxRecDepth 100000 in
theorem tX5_loadUnknowns_go {l : Launch} {X : wkX} {d F : Nat} {S0 : wPS} {Φ : (Unit → wPS → Prop)} (C : wkC X cX5_loadUnknowns RX5 5 wvX5_loadUnknowns) (hR : wkRm X d 0 0) (hd : 2 ≤ d) (E : wkEnd l X cX5_loadUnknowns 5 none 0 0 (fun v' S'' => ∃ v : Unit, v' = none ∧ Φ v S'' ∧ wkWF S'' ∧ wkExt S0 S'')) : ∀ k' : Nat, (∀ (l0A : Nat) (l1A : Nat) (l2I : Int32) (S : wPS), wkWF S → wkExt S0 S → wkIs S l0A 5 → wkIs S l1A 3 → rX5_loadUnknowns_go F k' 0 l0A l1A l2I 0 0 S Φ → wkGo l X 5 0 0 29 S [some (.ref l0A), some (.ref l1A), some (.int l2I), none, none] []) ∧ (∀ (l0A : Nat) (l1A : Nat) (l2I : Int32) (l3I : Int32) (l4I : Int32) (S : wPS), wkWF S → wkExt S0 S → wkIs S l0A 5 → wkIs S l1A 3 → rX5_loadUnknowns_go F k' 1 l0A l1A l2I l3I l4I S Φ → wkGo l X 5 0 0 54 S [some (.ref l0A), some (.ref l1A), some (.int l2I), some (.int l3I), some (.int l4I)] []) := by
  intro k'
  induction k' with
  | zero => exact ⟨fun l0A l1A l2I S hW hE hl0A hl1A h => h.elim, fun l0A l1A l2I l3I l4I S hW hE hl0A hl1A h => h.elim⟩
  | succ k' ih =>
    refine ⟨?_, ?_⟩
    · intro l0A l1A l2I S hW hE hl0A hl1A h
      have h : rX5_loadUnknowns_b0 F (rX5_loadUnknowns_go F k') l0A l1A l2I S Φ := by
        rw [rX5_loadUnknowns_go, if_pos (rfl : (0 : Nat) = 0)] at h
        exact h
      unfold rX5_loadUnknowns_b0 at h
      refine wk_iload_n C dX5_loadUnknowns_29 rfl rfl ?_
      refine wk_aload_n C dX5_loadUnknowns_30 rfl rfl ?_
      refine wk_get C (v := .int (gInequalities_rows S l0A)) huX5_loadUnknowns_5 hl0A.1 (fun cy => wAt_5 cy _ hl0A.2) rfl 4 (by decide) (List.mem_of_getElem? (i := 1) rfl) rfl rfl dX5_loadUnknowns_31 ?_
      refine wk_icmp_ge C (tgt := 128) dX5_loadUnknowns_34 (by decide) (fun c1 => ?_) (fun c1 => ?_)
      · rw [if_pos c1] at h
        refine wk_aload_n C dX5_loadUnknowns_128 rfl rfl ?_
        refine wk_callV C hR (As := []) (cnt := 0) (tX5_begin (l := l) hW hl0A h) rfl (wkGoodV (List.mem_of_getElem? (i := 2) rfl) (List.mem_of_getElem? (i := 3) rfl) (List.mem_of_getElem? (i := 4) rfl) (List.mem_of_getElem? (i := 5) rfl) hbX5_loadUnknowns_X5_begin gdX5_begin) (Nat.le_trans (by decide : 0 + 1 ≤ 2) hd) (by decide) hl0A.1 (fun cy => wAt_5 cy _ hl0A.2) rfl ⟨by decide, by decide, by decide +kernel⟩ rfl rfl (Nat.le_of_ble_eq_true rfl) (Nat.le_refl 0) (Nat.le_refl 0) dX5_loadUnknowns_129 (fun v' S3 hp => ?_)
        obtain ⟨v2, rfl, h, hWS3, hXS3⟩ := hp
        exact E _ _ _ _ _ (Nat.le_refl 0) (Nat.le_refl 0) dX5_loadUnknowns_132 ⟨(), rfl, h, hWS3, (wkExt.tr hE hXS3)⟩
      · rw [if_neg c1] at h
        refine wk_aload_n C dX5_loadUnknowns_37 rfl rfl ?_
        refine wk_iload_n C dX5_loadUnknowns_38 rfl rfl ?_
        refine wk_callW C hR (As := [.ref l1A, .int l2I]) (cnt := 2) (tX5_limitOf (l := l) hW hl1A h) rfl (wkGoodW (List.mem_of_getElem? (i := 6) rfl) (List.mem_of_getElem? (i := 7) rfl) (List.mem_of_getElem? (i := 5) rfl) hbX5_loadUnknowns_X5_limitOf gdX5_limitOf) (Nat.le_trans (by decide : 1 + 1 ≤ 2) hd) (by decide) ⟨by decide, by decide, by decide +kernel⟩ rfl rfl (Nat.le_of_ble_eq_true rfl) (Nat.le_refl 0) (Nat.le_refl 0) dX5_loadUnknowns_39 (fun v' S8 hp => ?_)
        obtain ⟨v7, rfl, h, hWS8, hXS8⟩ := hp
        refine wk_if_ge C (tgt := 49) dX5_loadUnknowns_42 (by decide) (fun c12 => ?_) (fun c12 => ?_)
        · rw [if_pos c12] at h
          refine wk_iconst C (v := 1) dX5_loadUnknowns_49 (by decide) ?_
          refine wk_istore_n C (lv' := [some (.ref l0A), some (.ref l1A), some (.int l2I), some (.int (1 : Int32)), none]) dX5_loadUnknowns_50 rfl (by decide) rfl ?_
          refine wk_iconst C (v := 0) dX5_loadUnknowns_51 (by decide) ?_
          refine wk_istore C (lv' := [some (.ref l0A), some (.ref l1A), some (.int l2I), some (.int (1 : Int32)), some (.int (0 : Int32))]) dX5_loadUnknowns_52 (by decide) rfl ?_
          exact wk_forget (lv' := [some (.ref l0A), some (.ref l1A), some (.int l2I), some (.int (1 : Int32)), some (.int (0 : Int32))]) (wkLs.le ⟨rfl, rfl, rfl, rfl, rfl, trivial⟩) (ih.2 _ _ _ _ _ _ hWS8 (wkExt.tr hE hXS8) (hXS8 _ _ hl0A) (hXS8 _ _ hl1A) h)
        · rw [if_neg c12] at h
          refine wk_iconst C (v := (-1)) dX5_loadUnknowns_45 (by decide) ?_
          refine wk_goto C (tgt := 50) dX5_loadUnknowns_46 (by decide) ?_
          refine wk_istore_n C (lv' := [some (.ref l0A), some (.ref l1A), some (.int l2I), some (.int (-1 : Int32)), none]) dX5_loadUnknowns_50 rfl (by decide) rfl ?_
          refine wk_iconst C (v := 0) dX5_loadUnknowns_51 (by decide) ?_
          refine wk_istore C (lv' := [some (.ref l0A), some (.ref l1A), some (.int l2I), some (.int (-1 : Int32)), some (.int (0 : Int32))]) dX5_loadUnknowns_52 (by decide) rfl ?_
          exact wk_forget (lv' := [some (.ref l0A), some (.ref l1A), some (.int l2I), some (.int (-1 : Int32)), some (.int (0 : Int32))]) (wkLs.le ⟨rfl, rfl, rfl, rfl, rfl, trivial⟩) (ih.2 _ _ _ _ _ _ hWS8 (wkExt.tr hE hXS8) (hXS8 _ _ hl0A) (hXS8 _ _ hl1A) h)
    · intro l0A l1A l2I l3I l4I S hW hE hl0A hl1A h
      have h : rX5_loadUnknowns_b1 F (rX5_loadUnknowns_go F k') l0A l1A l2I l3I l4I S Φ := by
        rw [rX5_loadUnknowns_go, if_neg (show ¬ (1 : Nat) = 0 by decide), if_pos (rfl : (1 : Nat) = 1)] at h
        exact h
      unfold rX5_loadUnknowns_b1 at h
      refine wk_iload C dX5_loadUnknowns_54 rfl ?_
      refine wk_aload_n C dX5_loadUnknowns_56 rfl rfl ?_
      refine wk_get C (v := .int (gEntry_size S l1A)) huX5_loadUnknowns_3 hl1A.1 (fun cy => wAt_3 cy _ hl1A.2) rfl 1 (by decide) (List.mem_of_getElem? (i := 8) rfl) rfl rfl dX5_loadUnknowns_57 ?_
      refine wk_icmp_ge C (tgt := 88) dX5_loadUnknowns_60 (by decide) (fun c13 => ?_) (fun c13 => ?_)
      · rw [if_pos c13] at h
        refine wk_aload_n C dX5_loadUnknowns_88 rfl rfl ?_
        refine wk_get C huX5_loadUnknowns_5 hl0A.1 (fun cy => wAt_5 cy _ hl0A.2) rfl 0 (by decide) (List.mem_of_getElem? (i := 9) rfl) rfl (congrArg some (congrArg va_rf (wf_Inequalities_table hW hl0A).1)) dX5_loadUnknowns_89 ?_
        refine wk_iload_n C dX5_loadUnknowns_92 rfl rfl ?_
        obtain ⟨i14, h⟩ := h
        have w15 := wf_R_J hW (wf_Inequalities_table hW hl0A).2 (Nat.not_le.mp fun q => i14 (Or.inr q))
        refine wk_aald_J C (wf_Inequalities_table hW hl0A).2.1 (wf_Inequalities_table hW hl0A).2.2 i14 w15.1 dX5_loadUnknowns_93 ?_
        refine wk_aload_n C dX5_loadUnknowns_94 rfl rfl ?_
        refine wk_get C (v := .int (gEntry_size S l1A)) huX5_loadUnknowns_3 hl1A.1 (fun cy => wAt_3 cy _ hl1A.2) rfl 1 (by decide) (List.mem_of_getElem? (i := 8) rfl) rfl rfl dX5_loadUnknowns_95 ?_
        refine wk_iload_n C dX5_loadUnknowns_98 rfl rfl ?_
        refine wk_iadd C dX5_loadUnknowns_99 rfl ?_
        refine wk_iload_n C dX5_loadUnknowns_100 rfl rfl ?_
        refine wk_i2l C dX5_loadUnknowns_101 rfl ?_
        obtain ⟨i16, h⟩ := h
        obtain ⟨S17, eS17, h⟩ := wkLt_some h
        refine wk_last C w15.2.1 w15.2.2 i16 eS17.symm dX5_loadUnknowns_102 ?_
        have hWS17 : wkWF S17 := by rw [eS17]; exact hW
        have hXS17 : wkExt S S17 := by rw [eS17]; exact wkExt.rf
        refine wk_aload_n C dX5_loadUnknowns_103 rfl rfl ?_
        refine wk_get C huX5_loadUnknowns_5 (hXS17 _ _ hl0A).1 (fun cy => wAt_5 cy _ (hXS17 _ _ hl0A).2) rfl 0 (by decide) (List.mem_of_getElem? (i := 9) rfl) rfl (congrArg some (congrArg va_rf (wf_Inequalities_table hWS17 (hXS17 _ _ hl0A)).1)) dX5_loadUnknowns_104 ?_
        refine wk_iload_n C dX5_loadUnknowns_107 rfl rfl ?_
        obtain ⟨i18, h⟩ := h
        have w19 := wf_R_J hWS17 (wf_Inequalities_table hWS17 (hXS17 _ _ hl0A)).2 (Nat.not_le.mp fun q => i18 (Or.inr q))
        refine wk_aald_J C (wf_Inequalities_table hWS17 (hXS17 _ _ hl0A)).2.1 (wf_Inequalities_table hWS17 (hXS17 _ _ hl0A)).2.2 i18 w19.1 dX5_loadUnknowns_108 ?_
        refine wk_aload_n C dX5_loadUnknowns_109 rfl rfl ?_
        refine wk_get C (v := .int (gInequalities_columns S17 l0A)) huX5_loadUnknowns_5 (hXS17 _ _ hl0A).1 (fun cy => wAt_5 cy _ (hXS17 _ _ hl0A).2) rfl 5 (by decide) (List.mem_of_getElem? (i := 10) rfl) rfl rfl dX5_loadUnknowns_110 ?_
        refine wk_iload_n C dX5_loadUnknowns_113 rfl rfl ?_
        refine wk_aload_n C dX5_loadUnknowns_114 rfl rfl ?_
        refine wk_iload_n C dX5_loadUnknowns_115 rfl rfl ?_
        refine wk_callW C hR (As := [.ref l1A, .int l2I]) (cnt := 2) (tX5_limitOf (l := l) hWS17 (hXS17 _ _ hl1A) h) rfl (wkGoodW (List.mem_of_getElem? (i := 6) rfl) (List.mem_of_getElem? (i := 7) rfl) (List.mem_of_getElem? (i := 5) rfl) hbX5_loadUnknowns_X5_limitOf gdX5_limitOf) (Nat.le_trans (by decide : 1 + 1 ≤ 2) hd) (by decide) ⟨by decide, by decide, by decide +kernel⟩ rfl rfl (Nat.le_of_ble_eq_true rfl) (Nat.le_refl 0) (Nat.le_refl 0) dX5_loadUnknowns_116 (fun v' S21 hp => ?_)
        obtain ⟨v20, rfl, h, hWS21, hXS21⟩ := hp
        refine wk_imul C dX5_loadUnknowns_119 rfl ?_
        refine wk_i2l C dX5_loadUnknowns_120 rfl ?_
        obtain ⟨i25, h⟩ := h
        obtain ⟨S26, eS26, h⟩ := wkLt_some h
        refine wk_last C (hXS21 _ _ w19.2).1 (hXS21 _ _ w19.2).2 i25 eS26.symm dX5_loadUnknowns_121 ?_
        have hWS26 : wkWF S26 := by rw [eS26]; exact hWS21
        have hXS26 : wkExt S21 S26 := by rw [eS26]; exact wkExt.rf
        obtain ⟨x27, ex27, h⟩ := wkLt_some h
        refine wk_iinc C (lv' := [some (.ref l0A), some (.ref l1A), some (.int x27), some (.int l3I), some (.int l4I)]) dX5_loadUnknowns_122 rfl (by rw [ex27]; rfl) (by decide) rfl ?_
        refine wk_goto C (tgt := 29) dX5_loadUnknowns_125 (by decide) ?_
        exact wk_forget (lv' := [some (.ref l0A), some (.ref l1A), some (.int x27), none, none]) (wkLs.le ⟨rfl, rfl, rfl, trivial⟩) (ih.1 _ _ _ _ hWS26 (wkExt.tr (wkExt.tr (wkExt.tr hE hXS17) hXS21) hXS26) (hXS26 _ _ (hXS21 _ _ (hXS17 _ _ hl0A))) (hXS26 _ _ (hXS21 _ _ (hXS17 _ _ hl1A))) h)
      · rw [if_neg c13] at h
        refine wk_aload_n C dX5_loadUnknowns_63 rfl rfl ?_
        refine wk_get C huX5_loadUnknowns_5 hl0A.1 (fun cy => wAt_5 cy _ hl0A.2) rfl 0 (by decide) (List.mem_of_getElem? (i := 9) rfl) rfl (congrArg some (congrArg va_rf (wf_Inequalities_table hW hl0A).1)) dX5_loadUnknowns_64 ?_
        refine wk_iload_n C dX5_loadUnknowns_67 rfl rfl ?_
        obtain ⟨i28, h⟩ := h
        have w29 := wf_R_J hW (wf_Inequalities_table hW hl0A).2 (Nat.not_le.mp fun q => i28 (Or.inr q))
        refine wk_aald_J C (wf_Inequalities_table hW hl0A).2.1 (wf_Inequalities_table hW hl0A).2.2 i28 w29.1 dX5_loadUnknowns_68 ?_
        refine wk_iload C dX5_loadUnknowns_69 rfl ?_
        refine wk_iload_n C dX5_loadUnknowns_71 rfl rfl ?_
        refine wk_aload_n C dX5_loadUnknowns_72 rfl rfl ?_
        refine wk_iload_n C dX5_loadUnknowns_73 rfl rfl ?_
        refine wk_iload C dX5_loadUnknowns_74 rfl ?_
        refine wk_callW C hR (As := [.ref l1A, .int l2I, .int l4I]) (cnt := 3) (tX5_times (l := l) hW hl1A h) rfl (wkGoodW (List.mem_of_getElem? (i := 11) rfl) (List.mem_of_getElem? (i := 12) rfl) (List.mem_of_getElem? (i := 5) rfl) hbX5_loadUnknowns_X5_times gdX5_times) (Nat.le_trans (by decide : 1 + 1 ≤ 2) hd) (by decide) ⟨by decide, by decide, by decide +kernel⟩ rfl rfl (Nat.le_of_ble_eq_true rfl) (Nat.le_refl 0) (Nat.le_refl 0) dX5_loadUnknowns_76 (fun v' S31 hp => ?_)
        obtain ⟨v30, rfl, h, hWS31, hXS31⟩ := hp
        refine wk_imul C dX5_loadUnknowns_79 rfl ?_
        refine wk_i2l C dX5_loadUnknowns_80 rfl ?_
        obtain ⟨i35, h⟩ := h
        obtain ⟨S36, eS36, h⟩ := wkLt_some h
        refine wk_last C (hXS31 _ _ w29.2).1 (hXS31 _ _ w29.2).2 i35 eS36.symm dX5_loadUnknowns_81 ?_
        have hWS36 : wkWF S36 := by rw [eS36]; exact hWS31
        have hXS36 : wkExt S31 S36 := by rw [eS36]; exact wkExt.rf
        obtain ⟨x37, ex37, h⟩ := wkLt_some h
        refine wk_iinc C (lv' := [some (.ref l0A), some (.ref l1A), some (.int l2I), some (.int l3I), some (.int x37)]) dX5_loadUnknowns_82 rfl (by rw [ex37]; rfl) (by decide) rfl ?_
        refine wk_goto C (tgt := 54) dX5_loadUnknowns_85 (by decide) ?_
        exact wk_forget (lv' := [some (.ref l0A), some (.ref l1A), some (.int l2I), some (.int l3I), some (.int x37)]) (wkLs.le ⟨rfl, rfl, rfl, rfl, rfl, trivial⟩) (ih.2 _ _ _ _ _ _ hWS36 (wkExt.tr (wkExt.tr hE hXS31) hXS36) (hXS36 _ _ (hXS31 _ _ hl0A)) (hXS36 _ _ (hXS31 _ _ hl1A)) h)
set_option maxHeartbeats 4000000 in
set_option maxRecDepth 100000 in
theorem tX5_loadUnknowns {l : Launch} {g : wkG} {F : Nat}  {S : wPS} {l0A : Nat} {l1A : Nat} {Φ : (Unit → wPS → Prop)} (hW : wkWF S) (hl0A : wkIs S l0A 5) (hl1A : wkIs S l1A 3) (h : rX5_loadUnknowns F l0A l1A S Φ) : wkMet l g yX5_loadUnknowns wvX5_loadUnknowns 2 0 0 [.ref l0A, .ref l1A] S (fun v' S'' => ∃ v : Unit, v' = none ∧ Φ v S'' ∧ wkWF S'' ∧ wkExt S S'') := by
  refine wkMet_of (ret := none) (by decide) rfl (Nat.le_of_ble_eq_true rfl) (fun X hg C hR E => ?_)
  subst hg
  have hE : wkExt S S := wkExt.rf
  have hd : 2 ≤ 2 := Nat.le_refl _
  show wkGo l X 5 0 0 0 S [some (.ref l0A), some (.ref l1A), none, none, none] []
  have ih := tX5_loadUnknowns_go (F := F) C hR hd E F
  have h : rX5_loadUnknowns_s F (rX5_loadUnknowns_go F F) l0A l1A S Φ := h
  unfold rX5_loadUnknowns_s at h
  refine wk_aload_n C dX5_loadUnknowns_0 rfl rfl ?_
  refine wk_aload_n C dX5_loadUnknowns_1 rfl rfl ?_
  refine wk_get C (v := .int (gEntry_itemCount S l1A)) huX5_loadUnknowns_3 hl1A.1 (fun cy => wAt_3 cy _ hl1A.2) rfl 6 (by decide) (List.mem_of_getElem? (i := 13) rfl) rfl rfl dX5_loadUnknowns_2 ?_
  refine wk_iconst C (v := 1) dX5_loadUnknowns_5 (by decide) ?_
  refine wk_iadd C dX5_loadUnknowns_6 rfl ?_
  obtain ⟨S38, eS38, h⟩ := wkLt_some h
  refine wk_put C (S' := S38) huX5_loadUnknowns_5 hl0A.1 (fun cy => wAt_5 cy _ hl0A.2) rfl 4 (by decide) (List.mem_of_getElem? (i := 1) rfl) rfl tyX5_ok nmX5 rfl (ty := .int) rfl rfl rfl (by show 4 < 7; decide) (fun cy b => by rw [eS38]; exact wSt_5_4 cy _ hl0A.2 _ b) (by rw [eS38]) dX5_loadUnknowns_7 ?_
  have hWS38 : wkWF S38 := by rw [eS38]; exact hW
  have hXS38 : wkExt S S38 := by rw [eS38]; exact wkExt.rf
  refine wk_aload_n C dX5_loadUnknowns_10 rfl rfl ?_
  refine wk_aload_n C dX5_loadUnknowns_11 rfl rfl ?_
  refine wk_get C (v := .int (gEntry_size S38 l1A)) huX5_loadUnknowns_3 (hXS38 _ _ hl1A).1 (fun cy => wAt_3 cy _ (hXS38 _ _ hl1A).2) rfl 1 (by decide) (List.mem_of_getElem? (i := 8) rfl) rfl rfl dX5_loadUnknowns_12 ?_
  refine wk_aload_n C dX5_loadUnknowns_15 rfl rfl ?_
  refine wk_get C (v := .int (gInequalities_rows S38 l0A)) huX5_loadUnknowns_5 (hXS38 _ _ hl0A).1 (fun cy => wAt_5 cy _ (hXS38 _ _ hl0A).2) rfl 4 (by decide) (List.mem_of_getElem? (i := 1) rfl) rfl rfl dX5_loadUnknowns_16 ?_
  refine wk_iadd C dX5_loadUnknowns_19 rfl ?_
  obtain ⟨S39, eS39, h⟩ := wkLt_some h
  refine wk_put C (S' := S39) huX5_loadUnknowns_5 (hXS38 _ _ hl0A).1 (fun cy => wAt_5 cy _ (hXS38 _ _ hl0A).2) rfl 5 (by decide) (List.mem_of_getElem? (i := 10) rfl) rfl tyX5_ok nmX5 rfl (ty := .int) rfl rfl rfl (by show 5 < 7; decide) (fun cy b => by rw [eS39]; exact wSt_5_5 cy _ (hXS38 _ _ hl0A).2 _ b) (by rw [eS39]) dX5_loadUnknowns_20 ?_
  have hWS39 : wkWF S39 := by rw [eS39]; exact hWS38
  have hXS39 : wkExt S38 S39 := by rw [eS39]; exact wkExt.rf
  refine wk_aload_n C dX5_loadUnknowns_23 rfl rfl ?_
  refine wk_callV C hR (As := []) (cnt := 0) (tX5_clearTable (l := l) hWS39 (hXS39 _ _ (hXS38 _ _ hl0A)) h) rfl (wkGoodV (List.mem_of_getElem? (i := 14) rfl) (List.mem_of_getElem? (i := 15) rfl) (List.mem_of_getElem? (i := 16) rfl) (List.mem_of_getElem? (i := 5) rfl) hbX5_loadUnknowns_X5_clearTable gdX5_clearTable) (Nat.le_trans (by decide : 1 + 1 ≤ 2) hd) (by decide) (hXS39 _ _ (hXS38 _ _ hl0A)).1 (fun cy => wAt_5 cy _ (hXS39 _ _ (hXS38 _ _ hl0A)).2) rfl ⟨by decide, by decide, by decide +kernel⟩ rfl rfl (Nat.le_of_ble_eq_true rfl) (Nat.le_refl 0) (Nat.le_refl 0) dX5_loadUnknowns_24 (fun v' S41 hp => ?_)
  obtain ⟨v40, rfl, h, hWS41, hXS41⟩ := hp
  refine wk_iconst C (v := 0) dX5_loadUnknowns_27 (by decide) ?_
  refine wk_istore_n C (lv' := [some (.ref l0A), some (.ref l1A), some (.int (0 : Int32)), none, none]) dX5_loadUnknowns_28 rfl (by decide) rfl ?_
  exact wk_forget (lv' := [some (.ref l0A), some (.ref l1A), some (.int (0 : Int32)), none, none]) (wkLs.le ⟨rfl, rfl, rfl, trivial⟩) (ih.1 _ _ _ _ hWS41 (wkExt.tr (wkExt.tr (wkExt.tr hE hXS38) hXS39) hXS41) (hXS41 _ _ (hXS39 _ _ (hXS38 _ _ hl0A))) (hXS41 _ _ (hXS39 _ _ (hXS38 _ _ hl1A))) h)
