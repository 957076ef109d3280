def wvX5_minimise : List Cond := .code yX5_minimise cX5_minimise 4 none :: (([.constant RX5 114 (100000), .methodLink RX5 122 yX5_rowOf, .instanceMethod yX5_rowOf, .selects RX5 yX5_rowOf yX5_rowOf, .initialized RX5, .methodLink RX5 119 yX5_lockRising, .instanceMethod yX5_lockRising, .selects RX5 yX5_lockRising yX5_lockRising, .fieldLink RX5 111 "Witnessworks$Inequalities" "locked" "I", .methodLink RX5 115 yX5_improves, .instanceMethod yX5_improves, .selects RX5 yX5_improves yX5_improves] : List Cond) ++ ((wsX50) ++ (wvX5_rowOf ++ (wvX5_lockRising ++ (wvX5_improves)))))
theorem huX5_minimise_5 : ∀ w ∈ u_ws RX5 TX5 7, w ∈ wvX5_minimise := fun w h => List.mem_cons_of_mem _ (List.mem_append_right _ (List.mem_append_left _ h))
theorem hbX5_minimise_X5_rowOf : ∀ w ∈ wvX5_rowOf, w ∈ wvX5_minimise := fun w h => List.mem_cons_of_mem _ (List.mem_append_right _ (List.mem_append_right _ (List.mem_append_left _ h)))
theorem hbX5_minimise_X5_lockRising : ∀ w ∈ wvX5_lockRising, w ∈ wvX5_minimise := fun w h => List.mem_cons_of_mem _ (List.mem_append_right _ (List.mem_append_right _ (List.mem_append_right _ (List.mem_append_left _ h))))
theorem hbX5_minimise_X5_improves : ∀ w ∈ wvX5_improves, w ∈ wvX5_minimise := fun w h => List.mem_cons_of_mem _ (List.mem_append_right _ (List.mem_append_right _ (List.mem_append_right _ (List.mem_append_right _ h))))
theorem gdX5_minimise : ∀ w ∈ wvX5_minimise, wkGd w := wkGdC rfl (wkGdA (wkGdL (by decide +kernel)) (wkGdA gdX5 (wkGdA gdX5_rowOf (wkGdA gdX5_lockRising gdX5_improves))))
def rX5_minimise_b0 (F : Nat) (rec : Nat → Nat → Int32 → Int32 → wPS → (Unit → wPS → Prop) → Prop) (l0A : Nat) (l1I : Int32) (l2I : Int32) (S : wPS) (Φ : (Unit → wPS → Prop)) : Prop :=
  if (100000 : Int32) ≤ l2I then (rX5_rowOf F l0A l1I S fun v2 S3 => if 0 ≤ v2 then (rX5_lockRising F l0A v2 S3 fun v8 S9 => Φ () S9) else (wkLt (wu_Inequalities_locked S3 l0A ((gInequalities_locked S3 l0A) ||| ((1 : Int32) <<< (l1I &&& 31)))) fun S13 => Φ () S13)) else (rX5_rowOf F l0A l1I S fun v14 S15 => if v14 < 0 then (rX5_rowOf F l0A l1I S15 fun v20 S21 => if 0 ≤ v20 then (rX5_lockRising F l0A v20 S21 fun v26 S27 => Φ () S27) else (wkLt (wu_Inequalities_locked S21 l0A ((gInequalities_locked S21 l0A) ||| ((1 : Int32) <<< (l1I &&& 31)))) fun S31 => Φ () S31)) else (rX5_improves F l0A v14 S15 fun v32 S33 => if v32 = 0 then (rX5_rowOf F l0A l1I S33 fun v39 S40 => if 0 ≤ v39 then (rX5_lockRising F l0A v39 S40 fun v45 S46 => Φ () S46) else (wkLt (wu_Inequalities_locked S40 l0A ((gInequalities_locked S40 l0A) ||| ((1 : Int32) <<< (l1I &&& 31)))) fun S50 => Φ () S50)) else (wkLt (l2I + (1 : Int32)) fun x38 => rec 0 l0A l1I x38 S33 Φ)))
def rX5_minimise_go (F : Nat) : Nat → Nat → Nat → Int32 → Int32 → wPS → (Unit → wPS → Prop) → Prop
  | 0, _, _, _, _, _, _ => False
  | k' + 1, lab, l0A, l1I, l2I, S, Φ => if lab = 0 then rX5_minimise_b0 F (rX5_minimise_go F k') l0A l1I l2I S Φ else False
def rX5_minimise_s (F : Nat) (rec : Nat → Nat → Int32 → Int32 → wPS → (Unit → wPS → Prop) → Prop) (l0A : Nat) (l1I : Int32) (S : wPS) (Φ : (Unit → wPS → Prop)) : Prop :=
  rec 0 l0A l1I (0 : Int32) S Φ
def rX5_minimise (F : Nat) (l0A : Nat) (l1I : Int32) (S : wPS) (Φ : (Unit → wPS → Prop)) : Prop := rX5_minimise_s F (rX5_minimise_go F F) l0A l1I S Φ
set_option maxHeartbeats 4000000 in
set_option maxRecDepth 100000 in
theorem tX5_minimise_go {l : Launch} {X : wkX} {d F : Nat} {S0 : wPS} {Φ : (Unit → wPS → Prop)} (C : wkC X cX5_minimise RX5 4 wvX5_minimise) (hR : wkRm X d 0 0) (hd : 3 ≤ d) (E : wkEnd l X cX5_minimise 4 none 0 0 (fun v' S'' => ∃ v : Unit, v' = none ∧ Φ v S'' ∧ wkWF S'' ∧ wkExt S0 S'')) : ∀ k' : Nat, (∀ (l0A : Nat) (l1I : Int32) (l2I : Int32) (S : wPS), wkWF S → wkExt S0 S → wkIs S l0A 5 → rX5_minimise_go F k' 0 l0A l1I l2I S Φ → wkGo l X 4 0 0 2 S [some (.ref l0A), some (.int l1I), some (.int l2I), none] []) := by
  intro k'
  induction k' with
  | zero => exact fun l0A l1I l2I S hW hE hl0A h => h.elim
  | succ k' ih =>
    · intro l0A l1I l2I S hW hE hl0A h
      have h : rX5_minimise_b0 F (rX5_minimise_go F k') l0A l1I l2I S Φ := by
        rw [rX5_minimise_go, if_pos (rfl : (0 : Nat) = 0)] at h
        exact h
      unfold rX5_minimise_b0 at h
      refine wk_iload_n C dX5_minimise_2 rfl rfl ?_
      refine wk_ldc C (v := 100000) (List.mem_of_getElem? (i := 1) rfl) dX5_minimise_3 ?_
      refine wk_icmp_ge C (tgt := 35) dX5_minimise_5 (by decide) (fun c1 => ?_) (fun c1 => ?_)
      · rw [if_pos c1] at h
        refine wk_aload_n C dX5_minimise_35 rfl rfl ?_
        refine wk_iload_n C dX5_minimise_36 rfl rfl ?_
        refine wk_callV C hR (As := [.int l1I]) (cnt := 1) (tX5_rowOf (l := l) hW hl0A h) rfl (wkGoodV (List.mem_of_getElem? (i := 2) rfl) (List.mem_of_getElem? (i := 3) rfl) (List.mem_of_getElem? (i := 4) rfl) (List.mem_of_getElem? (i := 5) rfl) hbX5_minimise_X5_rowOf gdX5_rowOf) (Nat.le_trans (by decide : 0 + 1 ≤ 3) hd) (by decide) hl0A.1 (fun cy => wAt_5 cy _ hl0A.2) rfl ⟨by decide, by decide, by decide +kernel⟩ rfl rfl (Nat.le_of_ble_eq_true rfl) (Nat.le_refl 0) (Nat.le_refl 0) dX5_minimise_37 (fun v' S3 hp => ?_)
        obtain ⟨v2, rfl, h, hWS3, hXS3⟩ := hp
        refine wk_istore_n C (lv' := [some (.ref l0A), some (.int l1I), some (.int v2), none]) dX5_minimise_40 rfl (by decide) rfl ?_
        refine wk_iload_n C dX5_minimise_41 rfl rfl ?_
        refine wk_if_ge C (tgt := 60) dX5_minimise_42 (by decide) (fun c7 => ?_) (fun c7 => ?_)
        · rw [if_pos c7] at h
          refine wk_aload_n C dX5_minimise_60 rfl rfl ?_
          refine wk_iload_n C dX5_minimise_61 rfl rfl ?_
          refine wk_callV C hR (As := [.int v2]) (cnt := 1) (tX5_lockRising (l := l) hWS3 (hXS3 _ _ hl0A) h) rfl (wkGoodV (List.mem_of_getElem? (i := 6) rfl) (List.mem_of_getElem? (i := 7) rfl) (List.mem_of_getElem? (i := 8) rfl) (List.mem_of_getElem? (i := 5) rfl) hbX5_minimise_X5_lockRising gdX5_lockRising) (Nat.le_trans (by decide : 0 + 1 ≤ 3) hd) (by decide) (hXS3 _ _ hl0A).1 (fun cy => wAt_5 cy _ (hXS3 _ _ hl0A).2) rfl ⟨by decide, by decide, by decide +kernel⟩ rfl rfl (Nat.le_of_ble_eq_true rfl) (Nat.le_refl 0) (Nat.le_refl 0) dX5_minimise_62 (fun v' S9 hp => ?_)
          obtain ⟨v8, rfl, h, hWS9, hXS9⟩ := hp
          exact E _ _ _ _ _ (Nat.le_refl 0) (Nat.le_refl 0) dX5_minimise_65 ⟨(), rfl, h, hWS9, (wkExt.tr (wkExt.tr hE hXS3) hXS9)⟩
        · rw [if_neg c7] at h
          refine wk_aload_n C dX5_minimise_45 rfl rfl ?_
          refine wk_dup C dX5_minimise_46 rfl ?_
          refine wk_get C (v := .int (gInequalities_locked S3 l0A)) huX5_minimise_5 (hXS3 _ _ hl0A).1 (fun cy => wAt_5 cy _ (hXS3 _ _ hl0A).2) rfl 3 (by decide) (List.mem_of_getElem? (i := 9) rfl) rfl rfl dX5_minimise_47 ?_
          refine wk_iconst C (v := 1) dX5_minimise_50 (by decide) ?_
          refine wk_iload_n C dX5_minimise_51 rfl rfl ?_
          refine wk_ishl C dX5_minimise_52 rfl ?_
          refine wk_ior C dX5_minimise_53 rfl ?_
          obtain ⟨S13, eS13, h⟩ := wkLt_some h
          refine wk_put C (S' := S13) huX5_minimise_5 (hXS3 _ _ hl0A).1 (fun cy => wAt_5 cy _ (hXS3 _ _ hl0A).2) rfl 3 (by decide) (List.mem_of_getElem? (i := 9) rfl) rfl tyX5_ok nmX5 rfl (ty := .int) rfl rfl rfl (by show 3 < 7; decide) (fun cy b => by rw [eS13]; exact wSt_5_3 cy _ (hXS3 _ _ hl0A).2 _ b) (by rw [eS13]) dX5_minimise_54 ?_
          have hWS13 : wkWF S13 := by rw [eS13]; exact hWS3
          have hXS13 : wkExt S3 S13 := by rw [eS13]; exact wkExt.rf
          refine wk_goto C (tgt := 65) dX5_minimise_57 (by decide) ?_
          exact E _ _ _ _ _ (Nat.le_refl 0) (Nat.le_refl 0) dX5_minimise_65 ⟨(), rfl, h, hWS13, (wkExt.tr (wkExt.tr hE hXS3) hXS13)⟩
      · rw [if_neg c1] at h
        refine wk_aload_n C dX5_minimise_8 rfl rfl ?_
        refine wk_iload_n C dX5_minimise_9 rfl rfl ?_
        refine wk_callV C hR (As := [.int l1I]) (cnt := 1) (tX5_rowOf (l := l) hW hl0A h) rfl (wkGoodV (List.mem_of_getElem? (i := 2) rfl) (List.mem_of_getElem? (i := 3) rfl) (List.mem_of_getElem? (i := 4) rfl) (List.mem_of_getElem? (i := 5) rfl) hbX5_minimise_X5_rowOf gdX5_rowOf) (Nat.le_trans (by decide : 0 + 1 ≤ 3) hd) (by decide) hl0A.1 (fun cy => wAt_5 cy _ hl0A.2) rfl ⟨by decide, by decide, by decide +kernel⟩ rfl rfl (Nat.le_of_ble_eq_true rfl) (Nat.le_refl 0) (Nat.le_refl 0) dX5_minimise_10 (fun v' S15 hp => ?_)
        obtain ⟨v14, rfl, h, hWS15, hXS15⟩ := hp
        refine wk_istore_n C (lv' := [some (.ref l0A), some (.int l1I), some (.int l2I), some (.int v14)]) dX5_minimise_13 rfl (by decide) rfl ?_
        refine wk_iload_n C dX5_minimise_14 rfl rfl ?_
        refine wk_if_lt C (tgt := 35) dX5_minimise_15 (by decide) (fun c19 => ?_) (fun c19 => ?_)
        · rw [if_pos c19] at h
          refine wk_aload_n C dX5_minimise_35 rfl rfl ?_
          refine wk_iload_n C dX5_minimise_36 rfl rfl ?_
          refine wk_callV C hR (As := [.int l1I]) (cnt := 1) (tX5_rowOf (l := l) hWS15 (hXS15 _ _ hl0A) h) rfl (wkGoodV (List.mem_of_getElem? (i := 2) rfl) (List.mem_of_getElem? (i := 3) rfl) (List.mem_of_getElem? (i := 4) rfl) (List.mem_of_getElem? (i := 5) rfl) hbX5_minimise_X5_rowOf gdX5_rowOf) (Nat.le_trans (by decide : 0 + 1 ≤ 3) hd) (by decide) (hXS15 _ _ hl0A).1 (fun cy => wAt_5 cy _ (hXS15 _ _ hl0A).2) rfl ⟨by decide, by decide, by decide +kernel⟩ rfl rfl (Nat.le_of_ble_eq_true rfl) (Nat.le_refl 0) (Nat.le_refl 0) dX5_minimise_37 (fun v' S21 hp => ?_)
          obtain ⟨v20, rfl, h, hWS21, hXS21⟩ := hp
          refine wk_istore_n C (lv' := [some (.ref l0A), some (.int l1I), some (.int v20), some (.int v14)]) dX5_minimise_40 rfl (by decide) rfl ?_
          refine wk_iload_n C dX5_minimise_41 rfl rfl ?_
          refine wk_if_ge C (tgt := 60) dX5_minimise_42 (by decide) (fun c25 => ?_) (fun c25 => ?_)
          · rw [if_pos c25] at h
            refine wk_aload_n C dX5_minimise_60 rfl rfl ?_
            refine wk_iload_n C dX5_minimise_61 rfl rfl ?_
            refine wk_callV C hR (As := [.int v20]) (cnt := 1) (tX5_lockRising (l := l) hWS21 (hXS21 _ _ (hXS15 _ _ hl0A)) h) rfl (wkGoodV (List.mem_of_getElem? (i := 6) rfl) (List.mem_of_getElem? (i := 7) rfl) (List.mem_of_getElem? (i := 8) rfl) (List.mem_of_getElem? (i := 5) rfl) hbX5_minimise_X5_lockRising gdX5_lockRising) (Nat.le_trans (by decide : 0 + 1 ≤ 3) hd) (by decide) (hXS21 _ _ (hXS15 _ _ hl0A)).1 (fun cy => wAt_5 cy _ (hXS21 _ _ (hXS15 _ _ hl0A)).2) rfl ⟨by decide, by decide, by decide +kernel⟩ rfl rfl (Nat.le_of_ble_eq_true rfl) (Nat.le_refl 0) (Nat.le_refl 0) dX5_minimise_62 (fun v' S27 hp => ?_)
            obtain ⟨v26, rfl, h, hWS27, hXS27⟩ := hp
            exact E _ _ _ _ _ (Nat.le_refl 0) (Nat.le_refl 0) dX5_minimise_65 ⟨(), rfl, h, hWS27, (wkExt.tr (wkExt.tr (wkExt.tr hE hXS15) hXS21) hXS27)⟩
          · rw [if_neg c25] at h
            refine wk_aload_n C dX5_minimise_45 rfl rfl ?_
            refine wk_dup C dX5_minimise_46 rfl ?_
            refine wk_get C (v := .int (gInequalities_locked S21 l0A)) huX5_minimise_5 (hXS21 _ _ (hXS15 _ _ hl0A)).1 (fun cy => wAt_5 cy _ (hXS21 _ _ (hXS15 _ _ hl0A)).2) rfl 3 (by decide) (List.mem_of_getElem? (i := 9) rfl) rfl rfl dX5_minimise_47 ?_
            refine wk_iconst C (v := 1) dX5_minimise_50 (by decide) ?_
            refine wk_iload_n C dX5_minimise_51 rfl rfl ?_
            refine wk_ishl C dX5_minimise_52 rfl ?_
            refine wk_ior C dX5_minimise_53 rfl ?_
            obtain ⟨S31, eS31, h⟩ := wkLt_some h
            refine wk_put C (S' := S31) huX5_minimise_5 (hXS21 _ _ (hXS15 _ _ hl0A)).1 (fun cy => wAt_5 cy _ (hXS21 _ _ (hXS15 _ _ hl0A)).2) rfl 3 (by decide) (List.mem_of_getElem? (i := 9) rfl) rfl tyX5_ok nmX5 rfl (ty := .int) rfl rfl rfl (by show 3 < 7; decide) (fun cy b => by rw [eS31]; exact wSt_5_3 cy _ (hXS21 _ _ (hXS15 _ _ hl0A)).2 _ b) (by rw [eS31]) dX5_minimise_54 ?_
            have hWS31 : wkWF S31 := by rw [eS31]; exact hWS21
            have hXS31 : wkExt S21 S31 := by rw [eS31]; exact wkExt.rf
            refine wk_goto C (tgt := 65) dX5_minimise_57 (by decide) ?_
            exact E _ _ _ _ _ (Nat.le_refl 0) (Nat.le_refl 0) dX5_minimise_65 ⟨(), rfl, h, hWS31, (wkExt.tr (wkExt.tr (wkExt.tr hE hXS15) hXS21) hXS31)⟩
        · rw [if_neg c19] at h
          refine wk_aload_n C dX5_minimise_18 rfl rfl ?_
          refine wk_iload_n C dX5_minimise_19 rfl rfl ?_
          refine wk_callV C hR (As := [.int v14]) (cnt := 1) (tX5_improves (l := l) hWS15 (hXS15 _ _ hl0A) h) rfl (wkGoodV (List.mem_of_getElem? (i := 10) rfl) (List.mem_of_getElem? (i := 11) rfl) (List.mem_of_getElem? (i := 12) rfl) (List.mem_of_getElem? (i := 5) rfl) hbX5_minimise_X5_improves gdX5_improves) (Nat.le_trans (by decide : 2 + 1 ≤ 3) hd) (by decide) (hXS15 _ _ hl0A).1 (fun cy => wAt_5 cy _ (hXS15 _ _ hl0A).2) rfl ⟨by decide, by decide, by decide +kernel⟩ rfl rfl (Nat.le_of_ble_eq_true rfl) (Nat.le_refl 0) (Nat.le_refl 0) dX5_minimise_20 (fun v' S33 hp => ?_)
          obtain ⟨v32, rfl, h, hWS33, hXS33⟩ := hp
          refine wk_if_ne C (tgt := 29) dX5_minimise_23 (by decide) (fun c37 => ?_) (fun c37 => ?_)
          · rw [if_neg c37] at h
            obtain ⟨x38, ex38, h⟩ := wkLt_some h
            refine wk_iinc C (lv' := [some (.ref l0A), some (.int l1I), some (.int x38), some (.int v14)]) dX5_minimise_29 rfl (by rw [ex38]; rfl) (by decide) rfl ?_
            refine wk_goto C (tgt := 2) dX5_minimise_32 (by decide) ?_
            exact wk_forget (lv' := [some (.ref l0A), some (.int l1I), some (.int x38), none]) (wkLs.le ⟨rfl, rfl, rfl, trivial⟩) (ih _ _ _ _ hWS33 (wkExt.tr (wkExt.tr hE hXS15) hXS33) (hXS33 _ _ (hXS15 _ _ hl0A)) h)
          · rw [if_pos c37] at h
            refine wk_goto C (tgt := 35) dX5_minimise_26 (by decide) ?_
            refine wk_aload_n C dX5_minimise_35 rfl rfl ?_
            refine wk_iload_n C dX5_minimise_36 rfl rfl ?_
            refine wk_callV C hR (As := [.int l1I]) (cnt := 1) (tX5_rowOf (l := l) hWS33 (hXS33 _ _ (hXS15 _ _ hl0A)) h) rfl (wkGoodV (List.mem_of_getElem? (i := 2) rfl) (List.mem_of_getElem? (i := 3) rfl) (List.mem_of_getElem? (i := 4) rfl) (List.mem_of_getElem? (i := 5) rfl) hbX5_minimise_X5_rowOf gdX5_rowOf) (Nat.le_trans (by decide : 0 + 1 ≤ 3) hd) (by decide) (hXS33 _ _ (hXS15 _ _ hl0A)).1 (fun cy => wAt_5 cy _ (hXS33 _ _ (hXS15 _ _ hl0A)).2) rfl ⟨by decide, by decide, by decide +kernel⟩ rfl rfl (Nat.le_of_ble_eq_true rfl) (Nat.le_refl 0) (Nat.le_refl 0) dX5_minimise_37 (fun v' S40 hp => ?_)
            obtain ⟨v39, rfl, h, hWS40, hXS40⟩ := hp
            refine wk_istore_n C (lv' := [some (.ref l0A), some (.int l1I), some (.int v39), some (.int v14)]) dX5_minimise_40 rfl (by decide) rfl ?_
            refine wk_iload_n C dX5_minimise_41 rfl rfl ?_
            refine wk_if_ge C (tgt := 60) dX5_minimise_42 (by decide) (fun c44 => ?_) (fun c44 => ?_)
            · rw [if_pos c44] at h
              refine wk_aload_n C dX5_minimise_60 rfl rfl ?_
              refine wk_iload_n C dX5_minimise_61 rfl rfl ?_
              refine wk_callV C hR (As := [.int v39]) (cnt := 1) (tX5_lockRising (l := l) hWS40 (hXS40 _ _ (hXS33 _ _ (hXS15 _ _ hl0A))) h) rfl (wkGoodV (List.mem_of_getElem? (i := 6) rfl) (List.mem_of_getElem? (i := 7) rfl) (List.mem_of_getElem? (i := 8) rfl) (List.mem_of_getElem? (i := 5) rfl) hbX5_minimise_X5_lockRising gdX5_lockRising) (Nat.le_trans (by decide : 0 + 1 ≤ 3) hd) (by decide) (hXS40 _ _ (hXS33 _ _ (hXS15 _ _ hl0A))).1 (fun cy => wAt_5 cy _ (hXS40 _ _ (hXS33 _ _ (hXS15 _ _ hl0A))).2) rfl ⟨by decide, by decide, by decide +kernel⟩ rfl rfl (Nat.le_of_ble_eq_true rfl) (Nat.le_refl 0) (Nat.le_refl 0) dX5_minimise_62 (fun v' S46 hp => ?_)
              obtain ⟨v45, rfl, h, hWS46, hXS46⟩ := hp
              exact E _ _ _ _ _ (Nat.le_refl 0) (Nat.le_refl 0) dX5_minimise_65 ⟨(), rfl, h, hWS46, (wkExt.tr (wkExt.tr (wkExt.tr (wkExt.tr hE hXS15) hXS33) hXS40) hXS46)⟩
            · rw [if_neg c44] at h
              refine wk_aload_n C dX5_minimise_45 rfl rfl ?_
              refine wk_dup C dX5_minimise_46 rfl ?_
              refine wk_get C (v := .int (gInequalities_locked S40 l0A)) huX5_minimise_5 (hXS40 _ _ (hXS33 _ _ (hXS15 _ _ hl0A))).1 (fun cy => wAt_5 cy _ (hXS40 _ _ (hXS33 _ _ (hXS15 _ _ hl0A))).2) rfl 3 (by decide) (List.mem_of_getElem? (i := 9) rfl) rfl rfl dX5_minimise_47 ?_
              refine wk_iconst C (v := 1) dX5_minimise_50 (by decide) ?_
              refine wk_iload_n C dX5_minimise_51 rfl rfl ?_
              refine wk_ishl C dX5_minimise_52 rfl ?_
              refine wk_ior C dX5_minimise_53 rfl ?_
              obtain ⟨S50, eS50, h⟩ := wkLt_some h
              refine wk_put C (S' := S50) huX5_minimise_5 (hXS40 _ _ (hXS33 _ _ (hXS15 _ _ hl0A))).1 (fun cy => wAt_5 cy _ (hXS40 _ _ (hXS33 _ _ (hXS15 _ _ hl0A))).2) rfl 3 (by decide) (List.mem_of_getElem? (i := 9) rfl) rfl tyX5_ok nmX5 rfl (ty := .int) rfl rfl rfl (by show 3 < 7; decide) (fun cy b => by rw [eS50]; exact wSt_5_3 cy _ (hXS40 _ _ (hXS33 _ _ (hXS15 _ _ hl0A))).2 _ b) (by rw [eS50]) dX5_minimise_54 ?_
              have hWS50 : wkWF S50 := by rw [eS50]; exact hWS40
              have hXS50 : wkExt S40 S50 := by rw [eS50]; exact wkExt.rf
              refine wk_goto C (tgt := 65) dX5_minimise_57 (by decide) ?_
              exact E _ _ _ _ _ (Nat.le_refl 0) (Nat.le_refl 0) dX5_minimise_65 ⟨(), rfl, h, hWS50, (wkExt.tr (wkExt.tr (wkExt.tr (wkExt.tr hE hXS15) hXS33) hXS40) hXS50)⟩
set_option maxHeartbeats 4000000 in
set_option maxRecDepth 100000 in
theorem tX5_minimise {l : Launch} {g : wkG} {F : Nat}  {S : wPS} {l0A : Nat} {l1I : Int32} {Φ : (Unit → wPS → Prop)} (hW : wkWF S) (hl0A : wkIs S l0A 5) (h : rX5_minimise F l0A l1I S Φ) : wkMet l g yX5_minimise wvX5_minimise 3 0 0 [.ref l0A, .int l1I] S (fun v' S'' => ∃ v : Unit, v' = none ∧ Φ v S'' ∧ wkWF S'' ∧ wkExt S S'') := by
  refine wkMet_of (ret := none) (by decide) rfl (Nat.le_of_ble_eq_true rfl) (fun X hg C hR E => ?_)
  subst hg
  have hE : wkExt S S := wkExt.rf
  have hd : 3 ≤ 3 := Nat.le_refl _
  show wkGo l X 4 0 0 0 S [some (.ref l0A), some (.int l1I), none, none] []
  have ih := tX5_minimise_go (F := F) C hR hd E F
  have h : rX5_minimise_s F (rX5_minimise_go F F) l0A l1I S Φ := h
  unfold rX5_minimise_s at h
  refine wk_iconst C (v := 0) dX5_minimise_0 (by decide) ?_
  refine wk_istore_n C (lv' := [some (.ref l0A), some (.int l1I), some (.int (0 : Int32)), none]) dX5_minimise_1 rfl (by decide) rfl ?_
  exact wk_forget (lv' := [some (.ref l0A), some (.int l1I), some (.int (0 : Int32)), none]) (wkLs.le ⟨rfl, rfl, rfl, trivial⟩) (ih _ _ _ _ hW hE hl0A h)
def wvX5_writeLeast : List Cond := .code yX5_writeLeast cX5_writeLeast 6 none :: (([.fieldLink RX5 47 "Witnessworks$Inequalities" "lower" "J", .methodLink RX5 40 yX5_minimise, .instanceMethod yX5_minimise, .selects RX5 yX5_minimise yX5_minimise, .initialized RX5, .methodLink RX5 138 yX9_add, .instanceMethod yX9_add, .selects RX9 yX9_add yX9_add, .initialized RX9, .methodLink RX5 51 yX5_valueOf, .instanceMethod yX5_valueOf, .selects RX5 yX5_valueOf yX5_valueOf, .static yX11_divisorInCommon, .initialized RX11] : List Cond) ++ ((wsX50) ++ (wvX5_minimise ++ (wvX9_add ++ (wvX5_valueOf ++ (wvX11_divisorInCommon))))))
theorem huX5_writeLeast_5 : ∀ w ∈ u_ws RX5 TX5 7, w ∈ wvX5_writeLeast := fun w h => List.mem_cons_of_mem _ (List.mem_append_right _ (List.mem_append_left _ h))
theorem hbX5_writeLeast_X5_minimise : ∀ w ∈ wvX5_minimise, w ∈ wvX5_writeLeast := fun w h => List.mem_cons_of_mem _ (List.mem_append_right _ (List.mem_append_right _ (List.mem_append_left _ h)))
theorem hbX5_writeLeast_X9_add : ∀ w ∈ wvX9_add, w ∈ wvX5_writeLeast := fun w h => List.mem_cons_of_mem _ (List.mem_append_right _ (List.mem_append_right _ (List.mem_append_right _ (List.mem_append_left _ h))))
theorem hbX5_writeLeast_X5_valueOf : ∀ w ∈ wvX5_valueOf, w ∈ wvX5_writeLeast := fun w h => List.mem_cons_of_mem _ (List.mem_append_right _ (List.mem_append_right _ (List.mem_append_right _ (List.mem_append_right _ (List.mem_append_left _ h)))))
theorem hbX5_writeLeast_X11_divisorInCommon : ∀ w ∈ wvX11_divisorInCommon, w ∈ wvX5_writeLeast := fun w h => List.mem_cons_of_mem _ (List.mem_append_right _ (List.mem_append_right _ (List.mem_append_right _ (List.mem_append_right _ (List.mem_append_right _ h)))))
theorem gdX5_writeLeast : ∀ w ∈ wvX5_writeLeast, wkGd w := wkGdC rfl (wkGdA (wkGdL (by decide +kernel)) (wkGdA gdX5 (wkGdA gdX5_minimise (wkGdA gdX9_add (wkGdA gdX5_valueOf gdX11_divisorInCommon)))))
def rX5_writeLeast_b0 (F : Nat) (k n : Nat) (rec : Nat → Nat → Nat → Nat → Int32 → Nat → Int32 → Int64 → Int32 → wPS → (Unit → wPS → Prop) → Prop) (c s : Nat) (l0A : Nat) (l1I : Int32) (l2A : Nat) (l3I : Int32) (S : wPS) (Φ : (Unit → wPS → Prop)) : Prop :=
  if l1I ≤ l3I then (wkLt ((gInequalities_lower S l0A)) fun x2 => rec 1 c s l0A l1I l2A 0 x2 (0 : Int32) S Φ) else (rX5_minimise F l0A l3I S fun v3 S4 => wkLt (l3I + (1 : Int32)) fun x8 => rec 0 c s l0A l1I l2A x8 0 0 S4 Φ)
def rX5_writeLeast_b1 (F : Nat) (k n : Nat) (rec : Nat → Nat → Nat → Nat → Int32 → Nat → Int32 → Int64 → Int32 → wPS → (Unit → wPS → Prop) → Prop) (c s : Nat) (l0A : Nat) (l1I : Int32) (l2A : Nat) (l3J : Int64) (l5I : Int32) (S : wPS) (Φ : (Unit → wPS → Prop)) : Prop :=
  if l1I ≤ l5I then (if 0 ≤ (lg_cmp l3J (1 : Int64)) then (¬ l3J = 0 ∧ ∃ k15 n16 : Nat, c + k15 ≤ k ∧ s + n16 ≤ n ∧ rX9_add F k15 n16 l2A (Int64.toInt32 ((gInequalities_lower S l0A) / l3J)) S fun v12 S13 => rec 2 (c + k15) (s + n16) l0A l1I l2A 0 l3J (0 : Int32) S13 Φ) else (Φ () S)) else (rX5_valueOf F l0A l5I S fun v17 S18 => rX11_divisorInCommon F l3J v17 S18 fun v22 S23 => wkLt (l5I + (1 : Int32)) fun x27 => rec 1 c s l0A l1I l2A 0 v22 x27 S23 Φ)
def rX5_writeLeast_b2 (F : Nat) (k n : Nat) (rec : Nat → Nat → Nat → Nat → Int32 → Nat → Int32 → Int64 → Int32 → wPS → (Unit → wPS → Prop) → Prop) (c s : Nat) (l0A : Nat) (l1I : Int32) (l2A : Nat) (l3J : Int64) (l5I : Int32) (S : wPS) (Φ : (Unit → wPS → Prop)) : Prop :=
  if l1I ≤ l5I then (Φ () S) else (rX5_valueOf F l0A l5I S fun v29 S30 => ¬ l3J = 0 ∧ ∃ k38 n39 : Nat, c + k38 ≤ k ∧ s + n39 ≤ n ∧ rX9_add F k38 n39 l2A (Int64.toInt32 (v29 / l3J)) S30 fun v35 S36 => wkLt (l5I + (1 : Int32)) fun x40 => rec 2 (c + k38) (s + n39) l0A l1I l2A 0 l3J x40 S36 Φ)
def rX5_writeLeast_go (F : Nat) (k n : Nat) : Nat → Nat → Nat → Nat → Nat → Int32 → Nat → Int32 → Int64 → Int32 → wPS → (Unit → wPS → Prop) → Prop
  | 0, _, _, _, _, _, _, _, _, _, _, _ => False
  | k' + 1, lab, c, s, l0A, l1I, l2A, l3I, l3J, l5I, S, Φ => if lab = 0 then rX5_writeLeast_b0 F k n (rX5_writeLeast_go F k n k') c s l0A l1I l2A l3I S Φ else if lab = 1 then rX5_writeLeast_b1 F k n (rX5_writeLeast_go F k n k') c s l0A l1I l2A l3J l5I S Φ else if lab = 2 then rX5_writeLeast_b2 F k n (rX5_writeLeast_go F k n k') c s l0A l1I l2A l3J l5I S Φ else False
def rX5_writeLeast_s (F : Nat) (k n : Nat) (rec : Nat → Nat → Nat → Nat → Int32 → Nat → Int32 → Int64 → Int32 → wPS → (Unit → wPS → Prop) → Prop) (l0A : Nat) (l1I : Int32) (l2A : Nat) (S : wPS) (Φ : (Unit → wPS → Prop)) : Prop :=
  rec 0 0 0 l0A l1I l2A (0 : Int32) 0 0 S Φ
def rX5_writeLeast (F : Nat) (k n : Nat) (l0A : Nat) (l1I : Int32) (l2A : Nat) (S : wPS) (Φ : (Unit → wPS → Prop)) : Prop := rX5_writeLeast_s F k n (rX5_writeLeast_go F k n F) l0A l1I l2A S Φ
set_option maxHeartbeats 4000000 in
set_option maxRecDepth 100000 in
theorem tX5_writeLeast_go {k n : Nat} {l : Launch} {X : wkX} {d F : Nat} {S0 : wPS} {Φ : (Unit → wPS → Prop)} (C : wkC X cX5_writeLeast RX5 6 wvX5_writeLeast) (hR : wkRm X d k n) (hd : 4 ≤ d) (E : wkEnd l X cX5_writeLeast 6 none k n (fun v' S'' => ∃ v : Unit, v' = none ∧ Φ v S'' ∧ wkWF S'' ∧ wkExt S0 S'')) : ∀ k' : Nat, (∀ (c s : Nat), c ≤ k → s ≤ n → ∀ (l0A : Nat) (l1I : Int32) (l2A : Nat) (l3I : Int32) (S : wPS), wkWF S → wkExt S0 S → wkIs S l0A 5 → wkIs S l2A 9 → rX5_writeLeast_go F k n k' 0 c s l0A l1I l2A l3I 0 0 S Φ → wkGo l X 6 c s 2 S [some (.ref l0A), some (.int l1I), some (.ref l2A), some (.int l3I), none, none] []) ∧ (∀ (c s : Nat), c ≤ k → s ≤ n → ∀ (l0A : Nat) (l1I : Int32) (l2A : Nat) (l3J : Int64) (l5I : Int32) (S : wPS), wkWF S → wkExt S0 S → wkIs S l0A 5 → wkIs S l2A 9 → rX5_writeLeast_go F k n k' 1 c s l0A l1I l2A 0 l3J l5I S Φ → wkGo l X 6 c s 26 S [some (.ref l0A), some (.int l1I), some (.ref l2A), some (.long l3J), none, some (.int l5I)] []) ∧ (∀ (c s : Nat), c ≤ k → s ≤ n → ∀ (l0A : Nat) (l1I : Int32) (l2A : Nat) (l3J : Int64) (l5I : Int32) (S : wPS), wkWF S → wkExt S0 S → wkIs S l0A 5 → wkIs S l2A 9 → rX5_writeLeast_go F k n k' 2 c s l0A l1I l2A 0 l3J l5I S Φ → wkGo l X 6 c s 70 S [some (.ref l0A), some (.int l1I), some (.ref l2A), some (.long l3J), none, some (.int l5I)] []) := by
  intro k'
  induction k' with
  | zero => exact ⟨fun c s hc hs l0A l1I l2A l3I S hW hE hl0A hl2A h => h.elim, fun c s hc hs l0A l1I l2A l3J l5I S hW hE hl0A hl2A h => h.elim, fun c s hc hs l0A l1I l2A l3J l5I S hW hE hl0A hl2A h => h.elim⟩
  | succ k' ih =>
    refine ⟨?_, ?_, ?_⟩
    · intro c s hc hs l0A l1I l2A l3I S hW hE hl0A hl2A h
      have h : rX5_writeLeast_b0 F k n (rX5_writeLeast_go F k n k') c s l0A l1I l2A l3I S Φ := by
        rw [rX5_writeLeast_go, if_pos (rfl : (0 : Nat) = 0)] at h
        exact h
      unfold rX5_writeLeast_b0 at h
      refine wk_iload_n C dX5_writeLeast_2 rfl rfl ?_
      refine wk_iload_n C dX5_writeLeast_3 rfl rfl ?_
      refine wk_icmp_ge C (tgt := 18) dX5_writeLeast_4 (by decide) (fun c1 => ?_) (fun c1 => ?_)
      · rw [if_pos c1] at h
        refine wk_aload_n C dX5_writeLeast_18 rfl rfl ?_
        refine wk_get C (v := .long (gInequalities_lower S l0A)) huX5_writeLeast_5 hl0A.1 (fun cy => wAt_5 cy _ hl0A.2) rfl 6 (by decide) (List.mem_of_getElem? (i := 1) rfl) rfl rfl dX5_writeLeast_19 ?_
        obtain ⟨x2, ex2, h⟩ := wkLt_some h
        refine wk_topl ex2 ?_
        refine wk_lstore_n C (lv' := [some (.ref l0A), some (.int l1I), some (.ref l2A), some (.long x2), none, none]) dX5_writeLeast_22 rfl (by decide) rfl ?_
        refine wk_iconst C (v := 0) dX5_writeLeast_23 (by decide) ?_
        refine wk_istore C (lv' := [some (.ref l0A), some (.int l1I), some (.ref l2A), some (.long x2), none, some (.int (0 : Int32))]) dX5_writeLeast_24 (by decide) rfl ?_
        exact wk_forget (lv' := [some (.ref l0A), some (.int l1I), some (.ref l2A), some (.long x2), none, some (.int (0 : Int32))]) (wkLs.le ⟨rfl, rfl, rfl, rfl, rfl, trivial⟩) (ih.2.1 _ _ hc hs _ _ _ _ _ _ hW hE hl0A hl2A h)
      · rw [if_neg c1] at h
        refine wk_aload_n C dX5_writeLeast_7 rfl rfl ?_
        refine wk_iload_n C dX5_writeLeast_8 rfl rfl ?_
        refine wk_callV C hR (As := [.int l3I]) (cnt := 1) (tX5_minimise (l := l) hW hl0A h) rfl (wkGoodV (List.mem_of_getElem? (i := 2) rfl) (List.mem_of_getElem? (i := 3) rfl) (List.mem_of_getElem? (i := 4) rfl) (List.mem_of_getElem? (i := 5) rfl) hbX5_writeLeast_X5_minimise gdX5_minimise) (Nat.le_trans (by decide : 3 + 1 ≤ 4) hd) (by decide) hl0A.1 (fun cy => wAt_5 cy _ hl0A.2) rfl ⟨by decide, by decide, by decide +kernel⟩ rfl rfl (Nat.le_of_ble_eq_true rfl) hc hs dX5_writeLeast_9 (fun v' S4 hp => ?_)
        obtain ⟨v3, rfl, h, hWS4, hXS4⟩ := hp
        obtain ⟨x8, ex8, h⟩ := wkLt_some h
        refine wk_iinc C (lv' := [some (.ref l0A), some (.int l1I), some (.ref l2A), some (.int x8), none, none]) dX5_writeLeast_12 rfl (by rw [ex8]; rfl) (by decide) rfl ?_
        refine wk_goto C (tgt := 2) dX5_writeLeast_15 (by decide) ?_
        exact wk_forget (lv' := [some (.ref l0A), some (.int l1I), some (.ref l2A), some (.int x8), none, none]) (wkLs.le ⟨rfl, rfl, rfl, rfl, trivial⟩) (ih.1 _ _ hc hs _ _ _ _ _ hWS4 (wkExt.tr hE hXS4) (hXS4 _ _ hl0A) (hXS4 _ _ hl2A) h)
    · intro c s hc hs l0A l1I l2A l3J l5I S hW hE hl0A hl2A h
      have h : rX5_writeLeast_b1 F k n (rX5_writeLeast_go F k n k') c s l0A l1I l2A l3J l5I S Φ := by
        rw [rX5_writeLeast_go, if_neg (show ¬ (1 : Nat) = 0 by decide), if_pos (rfl : (1 : Nat) = 1)] at h
        exact h
      unfold rX5_writeLeast_b1 at h
      refine wk_iload C dX5_writeLeast_26 rfl ?_
      refine wk_iload_n C dX5_writeLeast_28 rfl rfl ?_
      refine wk_icmp_ge C (tgt := 49) dX5_writeLeast_29 (by decide) (fun c9 => ?_) (fun c9 => ?_)
      · rw [if_pos c9] at h
        refine wk_lload_n C dX5_writeLeast_49 rfl rfl ?_
        refine wk_lconst C (v := 1) dX5_writeLeast_50 (by decide) ?_
        refine wk_lcmp C dX5_writeLeast_51 rfl ?_
        refine wk_if_ge C (tgt := 56) dX5_writeLeast_52 (by decide) (fun c10 => ?_) (fun c10 => ?_)
        · rw [if_pos c10] at h
          refine wk_aload_n C dX5_writeLeast_56 rfl rfl ?_
          refine wk_aload_n C dX5_writeLeast_57 rfl rfl ?_
          refine wk_get C (v := .long (gInequalities_lower S l0A)) huX5_writeLeast_5 hl0A.1 (fun cy => wAt_5 cy _ hl0A.2) rfl 6 (by decide) (List.mem_of_getElem? (i := 1) rfl) rfl rfl dX5_writeLeast_58 ?_
          refine wk_lload_n C dX5_writeLeast_61 rfl rfl ?_
          obtain ⟨z11, h⟩ := h
          refine wk_ldiv C dX5_writeLeast_62 z11 rfl ?_
          refine wk_l2i C dX5_writeLeast_63 rfl ?_
          obtain ⟨k15, n16, hk15, hn16, h⟩ := h
          refine wk_callV C hR (As := [.int (Int64.toInt32 ((gInequalities_lower S l0A) / l3J))]) (cnt := 1) (tX9_add (l := l) hW hl2A h) rfl (wkGoodV (List.mem_of_getElem? (i := 6) rfl) (List.mem_of_getElem? (i := 7) rfl) (List.mem_of_getElem? (i := 8) rfl) (List.mem_of_getElem? (i := 9) rfl) hbX5_writeLeast_X9_add gdX9_add) (Nat.le_trans (by decide : 2 + 1 ≤ 4) hd) (by decide) hl2A.1 (fun cy => wAt_9 cy _ hl2A.2) rfl ⟨by decide, by decide, by decide +kernel⟩ rfl rfl (Nat.le_of_ble_eq_true rfl) hk15 hn16 dX5_writeLeast_64 (fun v' S13 hp => ?_)
          obtain ⟨v12, rfl, h, hWS13, hXS13⟩ := hp
          refine wk_iconst C (v := 0) dX5_writeLeast_67 (by decide) ?_
          refine wk_istore C (lv' := [some (.ref l0A), some (.int l1I), some (.ref l2A), some (.long l3J), none, some (.int (0 : Int32))]) dX5_writeLeast_68 (by decide) rfl ?_
          exact wk_forget (lv' := [some (.ref l0A), some (.int l1I), some (.ref l2A), some (.long l3J), none, some (.int (0 : Int32))]) (wkLs.le ⟨rfl, rfl, rfl, rfl, rfl, trivial⟩) (ih.2.2 _ _ hk15 hn16 _ _ _ _ _ _ hWS13 (wkExt.tr hE hXS13) (hXS13 _ _ hl0A) (hXS13 _ _ hl2A) h)
        · rw [if_neg c10] at h
          exact E _ _ _ _ _ hc hs dX5_writeLeast_55 ⟨(), rfl, h, hW, hE⟩
      · rw [if_neg c9] at h
        refine wk_lload_n C dX5_writeLeast_32 rfl rfl ?_
        refine wk_aload_n C dX5_writeLeast_33 rfl rfl ?_
        refine wk_iload C dX5_writeLeast_34 rfl ?_
        refine wk_callV C hR (As := [.int l5I]) (cnt := 1) (tX5_valueOf (l := l) hW hl0A h) rfl (wkGoodV (List.mem_of_getElem? (i := 10) rfl) (List.mem_of_getElem? (i := 11) rfl) (List.mem_of_getElem? (i := 12) rfl) (List.mem_of_getElem? (i := 5) rfl) hbX5_writeLeast_X5_valueOf gdX5_valueOf) (Nat.le_trans (by decide : 1 + 1 ≤ 4) hd) (by decide) hl0A.1 (fun cy => wAt_5 cy _ hl0A.2) rfl ⟨by decide, by decide, by decide +kernel⟩ rfl rfl (Nat.le_of_ble_eq_true rfl) hc hs dX5_writeLeast_36 (fun v' S18 hp => ?_)
        obtain ⟨v17, rfl, h, hWS18, hXS18⟩ := hp
        refine wk_callN C hR (y := yX11_divisorInCommon) (host := "Witnessworks") (As := [.long l3J, .long v17]) (cnt := 2) (tX11_divisorInCommon (l := l) hWS18  h) rfl (fun w h => ⟨hbX5_writeLeast_X11_divisorInCommon w h, gdX11_divisorInCommon w h⟩) (by decide +kernel) (List.mem_of_getElem? (i := 13) rfl) (List.mem_of_getElem? (i := 14) rfl) (Nat.le_trans (by decide : 1 + 1 ≤ 4) hd) (by decide) ⟨by decide, by decide, by decide +kernel⟩ rfl rfl (Nat.le_of_ble_eq_true rfl) hc hs dX5_writeLeast_39 (fun v' S23 hp => ?_)
        obtain ⟨v22, rfl, h, hWS23, hXS23⟩ := hp
        refine wk_lstore_n C (lv' := [some (.ref l0A), some (.int l1I), some (.ref l2A), some (.long v22), none, some (.int l5I)]) dX5_writeLeast_42 rfl (by decide) rfl ?_
        obtain ⟨x27, ex27, h⟩ := wkLt_some h
        refine wk_iinc C (lv' := [some (.ref l0A), some (.int l1I), some (.ref l2A), some (.long v22), none, some (.int x27)]) dX5_writeLeast_43 rfl (by rw [ex27]; rfl) (by decide) rfl ?_
        refine wk_goto C (tgt := 26) dX5_writeLeast_46 (by decide) ?_
        exact wk_forget (lv' := [some (.ref l0A), some (.int l1I), some (.ref l2A), some (.long v22), none, some (.int x27)]) (wkLs.le ⟨rfl, rfl, rfl, rfl, rfl, trivial⟩) (ih.2.1 _ _ hc hs _ _ _ _ _ _ hWS23 (wkExt.tr (wkExt.tr hE hXS18) hXS23) (hXS23 _ _ (hXS18 _ _ hl0A)) (hXS23 _ _ (hXS18 _ _ hl2A)) h)
    · intro c s hc hs l0A l1I l2A l3J l5I S hW hE hl0A hl2A h
      have h : rX5_writeLeast_b2 F k n (rX5_writeLeast_go F k n k') c s l0A l1I l2A l3J l5I S Φ := by
        rw [rX5_writeLeast_go, if_neg (show ¬ (2 : Nat) = 0 by decide), if_neg (show ¬ (2 : Nat) = 1 by decide), if_pos (rfl : (2 : Nat) = 2)] at h
        exact h
      unfold rX5_writeLeast_b2 at h
      refine wk_iload C dX5_writeLeast_70 rfl ?_
      refine wk_iload_n C dX5_writeLeast_72 rfl rfl ?_
      refine wk_icmp_ge C (tgt := 95) dX5_writeLeast_73 (by decide) (fun c28 => ?_) (fun c28 => ?_)
      · rw [if_pos c28] at h
        exact E _ _ _ _ _ hc hs dX5_writeLeast_95 ⟨(), rfl, h, hW, hE⟩
      · rw [if_neg c28] at h
        refine wk_aload_n C dX5_writeLeast_76 rfl rfl ?_
        refine wk_aload_n C dX5_writeLeast_77 rfl rfl ?_
        refine wk_iload C dX5_writeLeast_78 rfl ?_
        refine wk_callV C hR (As := [.int l5I]) (cnt := 1) (tX5_valueOf (l := l) hW hl0A h) rfl (wkGoodV (List.mem_of_getElem? (i := 10) rfl) (List.mem_of_getElem? (i := 11) rfl) (List.mem_of_getElem? (i := 12) rfl) (List.mem_of_getElem? (i := 5) rfl) hbX5_writeLeast_X5_valueOf gdX5_valueOf) (Nat.le_trans (by decide : 1 + 1 ≤ 4) hd) (by decide) hl0A.1 (fun cy => wAt_5 cy _ hl0A.2) rfl ⟨by decide, by decide, by decide +kernel⟩ rfl rfl (Nat.le_of_ble_eq_true rfl) hc hs dX5_writeLeast_80 (fun v' S30 hp => ?_)
        obtain ⟨v29, rfl, h, hWS30, hXS30⟩ := hp
        refine wk_lload_n C dX5_writeLeast_83 rfl rfl ?_
        obtain ⟨z34, h⟩ := h
        refine wk_ldiv C dX5_writeLeast_84 z34 rfl ?_
        refine wk_l2i C dX5_writeLeast_85 rfl ?_
        obtain ⟨k38, n39, hk38, hn39, h⟩ := h
        refine wk_callV C hR (As := [.int (Int64.toInt32 (v29 / l3J))]) (cnt := 1) (tX9_add (l := l) hWS30 (hXS30 _ _ hl2A) h) rfl (wkGoodV (List.mem_of_getElem? (i := 6) rfl) (List.mem_of_getElem? (i := 7) rfl) (List.mem_of_getElem? (i := 8) rfl) (List.mem_of_getElem? (i := 9) rfl) hbX5_writeLeast_X9_add gdX9_add) (Nat.le_trans (by decide : 2 + 1 ≤ 4) hd) (by decide) (hXS30 _ _ hl2A).1 (fun cy => wAt_9 cy _ (hXS30 _ _ hl2A).2) rfl ⟨by decide, by decide, by decide +kernel⟩ rfl rfl (Nat.le_of_ble_eq_true rfl) hk38 hn39 dX5_writeLeast_86 (fun v' S36 hp => ?_)
        obtain ⟨v35, rfl, h, hWS36, hXS36⟩ := hp
        obtain ⟨x40, ex40, h⟩ := wkLt_some h
        refine wk_iinc C (lv' := [some (.ref l0A), some (.int l1I), some (.ref l2A), some (.long l3J), none, some (.int x40)]) dX5_writeLeast_89 rfl (by rw [ex40]; rfl) (by decide) rfl ?_
        refine wk_goto C (tgt := 70) dX5_writeLeast_92 (by decide) ?_
        exact wk_forget (lv' := [some (.ref l0A), some (.int l1I), some (.ref l2A), some (.long l3J), none, some (.int x40)]) (wkLs.le ⟨rfl, rfl, rfl, rfl, rfl, trivial⟩) (ih.2.2 _ _ hk38 hn39 _ _ _ _ _ _ hWS36 (wkExt.tr (wkExt.tr hE hXS30) hXS36) (hXS36 _ _ (hXS30 _ _ hl0A)) (hXS36 _ _ (hXS30 _ _ hl2A)) h)
set_option maxHeartbeats 4000000 in
set_option maxRecDepth 100000 in
theorem tX5_writeLeast {l : Launch} {g : wkG} {F : Nat} {k n : Nat}  {S : wPS} {l0A : Nat} {l1I : Int32} {l2A : Nat} {Φ : (Unit → wPS → Prop)} (hW : wkWF S) (hl0A : wkIs S l0A 5) (hl2A : wkIs S l2A 9) (h : rX5_writeLeast F k n l0A l1I l2A S Φ) : wkMet l g yX5_writeLeast wvX5_writeLeast 4 k n [.ref l0A, .int l1I, .ref l2A] S (fun v' S'' => ∃ v : Unit, v' = none ∧ Φ v S'' ∧ wkWF S'' ∧ wkExt S S'') := by
  refine wkMet_of (ret := none) (by decide) rfl (Nat.le_of_ble_eq_true rfl) (fun X hg C hR E => ?_)
  subst hg
  have hE : wkExt S S := wkExt.rf
  have hd : 4 ≤ 4 := Nat.le_refl _
  show wkGo l X 6 0 0 0 S [some (.ref l0A), some (.int l1I), some (.ref l2A), none, none, none] []
  have ih := tX5_writeLeast_go (F := F) C hR hd E F
  have h : rX5_writeLeast_s F k n (rX5_writeLeast_go F k n F) l0A l1I l2A S Φ := h
  unfold rX5_writeLeast_s at h
  refine wk_iconst C (v := 0) dX5_writeLeast_0 (by decide) ?_
  refine wk_istore_n C (lv' := [some (.ref l0A), some (.int l1I), some (.ref l2A), some (.int (0 : Int32)), none, none]) dX5_writeLeast_1 rfl (by decide) rfl ?_
  exact wk_forget (lv' := [some (.ref l0A), some (.int l1I), some (.ref l2A), some (.int (0 : Int32)), none, none]) (wkLs.le ⟨rfl, rfl, rfl, rfl, trivial⟩) (ih.1 _ _ (Nat.zero_le _) (Nat.zero_le _) _ _ _ _ _ hW hE hl0A hl2A h)
