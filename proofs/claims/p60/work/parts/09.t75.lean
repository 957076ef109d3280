def wvX7_greatest : List Cond := .code yX7_greatest cX7_greatest 2 (some .int) :: (([.fieldLink RX7 138 "Witnessworks$Networks" "nodeCount" "I", .methodLink RX7 141 yX7_leadsOn, .instanceMethod yX7_leadsOn, .selects RX7 yX7_leadsOn yX7_leadsOn, .initialized RX7, .fieldLink RX7 27 "Witnessworks$Networks" "flow" "[I", .methodLink RX7 133 yJ7_fill_53178, .static yJ7_fill_53178, .initialized RJ7] : List Cond) ++ ((wsX70) ++ (wvX7_leadsOn ++ (wvJ7_fill_53178))))
theorem huX7_greatest_7 : ∀ w ∈ u_ws RX7 TX7 11, w ∈ wvX7_greatest := fun w h => List.mem_cons_of_mem _ (List.mem_append_right _ (List.mem_append_left _ h))
theorem hbX7_greatest_X7_leadsOn : ∀ w ∈ wvX7_leadsOn, w ∈ wvX7_greatest := fun w h => List.mem_cons_of_mem _ (List.mem_append_right _ (List.mem_append_right _ (List.mem_append_left _ h)))
theorem hbX7_greatest_J7_fill_53178 : ∀ w ∈ wvJ7_fill_53178, w ∈ wvX7_greatest := fun w h => List.mem_cons_of_mem _ (List.mem_append_right _ (List.mem_append_right _ (List.mem_append_right _ h)))
theorem gdX7_greatest : ∀ w ∈ wvX7_greatest, wkGd w := wkGdC rfl (wkGdA (wkGdL (by decide +kernel)) (wkGdA gdX7 (wkGdA gdX7_leadsOn gdJ7_fill_53178)))
def rX7_greatest_b0 (F : Nat) (rec : Nat → Nat → Int32 → wPS → (Int32 → wPS → Prop) → Prop) (l0A : Nat) (l1I : Int32) (S : wPS) (Φ : (Int32 → wPS → Prop)) : Prop :=
  if (70 : Int32) ≤ l1I then (Φ l1I S) else (rX7_leadsOn F l0A (0 : Int32) ((gNetworks_nodeCount S l0A) - (1 : Int32)) (0 : Int32) S fun v2 S3 => if v2 = 0 then (Φ l1I S3) else (wkLt (l1I + (1 : Int32)) fun x8 => rec 0 l0A x8 S3 Φ))
def rX7_greatest_go (F : Nat) : Nat → Nat → Nat → Int32 → wPS → (Int32 → wPS → Prop) → Prop
  | 0, _, _, _, _, _ => False
  | k' + 1, lab, l0A, l1I, S, Φ => if lab = 0 then rX7_greatest_b0 F (rX7_greatest_go F k') l0A l1I S Φ else False
def rX7_greatest_s (F : Nat) (rec : Nat → Nat → Int32 → wPS → (Int32 → wPS → Prop) → Prop) (l0A : Nat) (S : wPS) (Φ : (Int32 → wPS → Prop)) : Prop :=
  rJ7_fill_53178 F (wkAd (gNetworks_flow S l0A)) (0 : Int32) S fun v9 S10 => rec 0 l0A (0 : Int32) S10 Φ
def rX7_greatest (F : Nat) (l0A : Nat) (S : wPS) (Φ : (Int32 → wPS → Prop)) : Prop := rX7_greatest_s F (rX7_greatest_go F F) l0A S Φ
set_option maxHeartbeats 4000000 in
set_option maxRecDepth 100000 in
theorem tX7_greatest_go {l : Launch} {X : wkX} {d F : Nat} {S0 : wPS} {Φ : (Int32 → wPS → Prop)} (C : wkC X cX7_greatest RX7 2 wvX7_greatest) (hR : wkRm X d 0 0) (hd : 3 ≤ d) (E : wkEnd l X cX7_greatest 2 (some .int) 0 0 (fun v' S'' => ∃ v : Int32, v' = some (.int v) ∧ Φ v S'' ∧ wkWF S'' ∧ wkExt S0 S'')) : ∀ k' : Nat, (∀ (l0A : Nat) (l1I : Int32) (S : wPS), wkWF S → wkExt S0 S → wkIs S l0A 7 → rX7_greatest_go F k' 0 l0A l1I S Φ → wkGo l X 2 0 0 10 S [some (.ref l0A), some (.int l1I)] []) := by
  intro k'
  induction k' with
  | zero => exact fun l0A l1I S hW hE hl0A h => h.elim
  | succ k' ih =>
    · intro l0A l1I S hW hE hl0A h
      have h : rX7_greatest_b0 F (rX7_greatest_go F k') l0A l1I S Φ := by
        rw [rX7_greatest_go, if_pos (rfl : (0 : Nat) = 0)] at h
        exact h
      unfold rX7_greatest_b0 at h
      refine wk_iload_n C dX7_greatest_10 rfl rfl ?_
      refine wk_bipush C (v := 70) dX7_greatest_11 (by decide) ?_
      refine wk_icmp_ge C (tgt := 37) dX7_greatest_13 (by decide) (fun c1 => ?_) (fun c1 => ?_)
      · rw [if_pos c1] at h
        refine wk_iload_n C dX7_greatest_37 rfl rfl ?_
        exact E _ _ _ _ _ _ (Nat.le_refl 0) (Nat.le_refl 0) dX7_greatest_38 ⟨l1I, rfl, h, hW, hE⟩
      · rw [if_neg c1] at h
        refine wk_aload_n C dX7_greatest_16 rfl rfl ?_
        refine wk_iconst C (v := 0) dX7_greatest_17 (by decide) ?_
        refine wk_aload_n C dX7_greatest_18 rfl rfl ?_
        refine wk_get C (v := .int (gNetworks_nodeCount S l0A)) huX7_greatest_7 hl0A.1 (fun cy => wAt_7 cy _ hl0A.2) rfl 8 (by decide) (List.mem_of_getElem? (i := 1) rfl) rfl rfl dX7_greatest_19 ?_
        refine wk_iconst C (v := 1) dX7_greatest_22 (by decide) ?_
        refine wk_isub C dX7_greatest_23 rfl ?_
        refine wk_iconst C (v := 0) dX7_greatest_24 (by decide) ?_
        refine wk_callV C hR (As := [.int (0 : Int32), .int ((gNetworks_nodeCount S l0A) - (1 : Int32)), .int (0 : Int32)]) (cnt := 3) (tX7_leadsOn (l := l) hW hl0A h) rfl (wkGoodV (List.mem_of_getElem? (i := 2) rfl) (List.mem_of_getElem? (i := 3) rfl) (List.mem_of_getElem? (i := 4) rfl) (List.mem_of_getElem? (i := 5) rfl) hbX7_greatest_X7_leadsOn gdX7_leadsOn) (Nat.le_trans (by decide : 2 + 1 ≤ 3) hd) (by decide) hl0A.1 (fun cy => wAt_7 cy _ hl0A.2) rfl ⟨by decide, by decide, by decide +kernel⟩ rfl rfl (Nat.le_of_ble_eq_true rfl) (Nat.le_refl 0) (Nat.le_refl 0) dX7_greatest_25 (fun v' S3 hp => ?_)
        obtain ⟨v2, rfl, h, hWS3, hXS3⟩ := hp
        refine wk_if_eq C (tgt := 37) dX7_greatest_28 (by decide) (fun c7 => ?_) (fun c7 => ?_)
        · rw [if_pos c7] at h
          refine wk_iload_n C dX7_greatest_37 rfl rfl ?_
          exact E _ _ _ _ _ _ (Nat.le_refl 0) (Nat.le_refl 0) dX7_greatest_38 ⟨l1I, rfl, h, hWS3, (wkExt.tr hE hXS3)⟩
        · rw [if_neg c7] at h
          obtain ⟨x8, ex8, h⟩ := wkLt_some h
          refine wk_iinc C (lv' := [some (.ref l0A), some (.int x8)]) dX7_greatest_31 rfl (by rw [ex8]; rfl) (by decide) rfl ?_
          refine wk_goto C (tgt := 10) dX7_greatest_34 (by decide) ?_
          exact wk_forget (lv' := [some (.ref l0A), some (.int x8)]) (wkLs.le ⟨rfl, rfl, trivial⟩) (ih _ _ _ hWS3 (wkExt.tr hE hXS3) (hXS3 _ _ hl0A) h)
set_option maxHeartbeats 4000000 in
set_option maxRecDepth 100000 in
theorem tX7_greatest {l : Launch} {g : wkG} {F : Nat}  {S : wPS} {l0A : Nat} {Φ : (Int32 → wPS → Prop)} (hW : wkWF S) (hl0A : wkIs S l0A 7) (h : rX7_greatest F l0A S Φ) : wkMet l g yX7_greatest wvX7_greatest 3 0 0 [.ref l0A] S (fun v' S'' => ∃ v : Int32, v' = some (.int v) ∧ Φ v S'' ∧ wkWF S'' ∧ wkExt S S'') := by
  refine wkMet_of (ret := (some .int)) (by decide) rfl (Nat.le_of_ble_eq_true rfl) (fun X hg C hR E => ?_)
  subst hg
  have hE : wkExt S S := wkExt.rf
  have hd : 3 ≤ 3 := Nat.le_refl _
  show wkGo l X 2 0 0 0 S [some (.ref l0A), none] []
  have ih := tX7_greatest_go (F := F) C hR hd E F
  have h : rX7_greatest_s F (rX7_greatest_go F F) l0A S Φ := h
  unfold rX7_greatest_s at h
  refine wk_aload_n C dX7_greatest_0 rfl rfl ?_
  refine wk_get C huX7_greatest_7 hl0A.1 (fun cy => wAt_7 cy _ hl0A.2) rfl 5 (by decide) (List.mem_of_getElem? (i := 6) rfl) rfl (congrArg some (congrArg va_rf (wf_Networks_flow hW hl0A).1)) dX7_greatest_1 ?_
  refine wk_iconst C (v := 0) dX7_greatest_4 (by decide) ?_
  refine wk_callW C hR (As := [.ref (wkAd (gNetworks_flow S l0A)), .int (0 : Int32)]) (cnt := 2) (tJ7_fill_53178 (l := l) hW (wf_Networks_flow hW hl0A).2 h) rfl (wkGoodW (List.mem_of_getElem? (i := 7) rfl) (List.mem_of_getElem? (i := 8) rfl) (List.mem_of_getElem? (i := 9) rfl) hbX7_greatest_J7_fill_53178 gdJ7_fill_53178) (Nat.le_trans (by decide : 0 + 1 ≤ 3) hd) (by decide) ⟨by decide, by decide, by decide +kernel⟩ rfl rfl (Nat.le_of_ble_eq_true rfl) (Nat.le_refl 0) (Nat.le_refl 0) dX7_greatest_5 (fun v' S10 hp => ?_)
  obtain ⟨v9, rfl, h, hWS10, hXS10⟩ := hp
  refine wk_iconst C (v := 0) dX7_greatest_8 (by decide) ?_
  refine wk_istore_n C (lv' := [some (.ref l0A), some (.int (0 : Int32))]) dX7_greatest_9 rfl (by decide) rfl ?_
  exact wk_forget (lv' := [some (.ref l0A), some (.int (0 : Int32))]) (wkLs.le ⟨rfl, rfl, trivial⟩) (ih _ _ _ hWS10 (wkExt.tr hE hXS10) (hXS10 _ _ hl0A) h)
def wvX8_findPoint : List Cond := .code yX8_findPoint cX8_findPoint 3 (some .boolean) :: (([.fieldLink RX8 17 "Witnessworks$Numbers" "basis" "[[J", .methodLink RX8 83 yJ7_fill_d0a16, .static yJ7_fill_d0a16, .initialized RJ7, .fieldLink RX8 71 "Witnessworks$Entry" "itemCount" "I", .methodLink RX8 89 yX8_fulfilItem, .instanceMethod yX8_fulfilItem, .selects RX8 yX8_fulfilItem yX8_fulfilItem, .initialized RX8, .fieldLink RX8 46 "Witnessworks$Entry" "size" "I", .fieldLink RX8 80 "Witnessworks$Numbers" "basisCount" "I", .fieldLink RX8 11 "Witnessworks$Numbers" "point" "[J"] : List Cond) ++ ((wsX80 ++ (wsX30)) ++ (wvJ7_fill_d0a16 ++ (wvX8_fulfilItem))))
theorem huX8_findPoint_8 : ∀ w ∈ u_ws RX8 TX8 9, w ∈ wvX8_findPoint := fun w h => List.mem_cons_of_mem _ (List.mem_append_right _ (List.mem_append_left _ (List.mem_append_left _ h)))
theorem huX8_findPoint_3 : ∀ w ∈ u_ws RX3 TX3 17, w ∈ wvX8_findPoint := fun w h => List.mem_cons_of_mem _ (List.mem_append_right _ (List.mem_append_left _ (List.mem_append_right _ h)))
theorem hbX8_findPoint_J7_fill_d0a16 : ∀ w ∈ wvJ7_fill_d0a16, w ∈ wvX8_findPoint := fun w h => List.mem_cons_of_mem _ (List.mem_append_right _ (List.mem_append_right _ (List.mem_append_left _ h)))
theorem hbX8_findPoint_X8_fulfilItem : ∀ w ∈ wvX8_fulfilItem, w ∈ wvX8_findPoint := fun w h => List.mem_cons_of_mem _ (List.mem_append_right _ (List.mem_append_right _ (List.mem_append_right _ h)))
theorem gdX8_findPoint : ∀ w ∈ wvX8_findPoint, wkGd w := wkGdC rfl (wkGdA (wkGdL (by decide +kernel)) (wkGdA (wkGdA gdX8 gdX3) (wkGdA gdJ7_fill_d0a16 gdX8_fulfilItem)))
def rX8_findPoint_b0 (F : Nat) (rec : Nat → Nat → Nat → Int32 → wPS → (Int32 → wPS → Prop) → Prop) (l0A : Nat) (l1A : Nat) (l2I : Int32) (S : wPS) (Φ : (Int32 → wPS → Prop)) : Prop :=
  if (4 : Int32) ≤ l2I then (rec 1 l0A l1A (0 : Int32) S Φ) else (¬ (l2I < 0 ∨ S.len (wkAd (gNumbers_basis S l0A)) ≤ (l2I).toNatClampNeg) ∧ rJ7_fill_d0a16 F (wkAd (S.rA (wkAd (gNumbers_basis S l0A)) (l2I).toNatClampNeg)) (0 : Int64) S fun v4 S5 => ¬ (l2I < 0 ∨ S5.len (wkAd (gNumbers_basis S5 l0A)) ≤ (l2I).toNatClampNeg) ∧ ¬ (l2I < 0 ∨ S5.len (wkAd (S5.rA (wkAd (gNumbers_basis S5 l0A)) (l2I).toNatClampNeg)) ≤ (l2I).toNatClampNeg) ∧ wkLt (wuJ S5 (wkAd (S5.rA (wkAd (gNumbers_basis S5 l0A)) (l2I).toNatClampNeg)) l2I (1 : Int64)) fun S12 => wkLt (l2I + (1 : Int32)) fun x13 => rec 0 l0A l1A x13 S12 Φ)
def rX8_findPoint_b1 (F : Nat) (rec : Nat → Nat → Nat → Int32 → wPS → (Int32 → wPS → Prop) → Prop) (l0A : Nat) (l1A : Nat) (l2I : Int32) (S : wPS) (Φ : (Int32 → wPS → Prop)) : Prop :=
  if (gEntry_itemCount S l1A) ≤ l2I then (Φ (1 : Int32) S) else (rX8_fulfilItem F l0A l1A l2I S fun v15 S16 => if v15 = 0 then (Φ (0 : Int32) S16) else (wkLt (l2I + (1 : Int32)) fun x21 => rec 1 l0A l1A x21 S16 Φ))
def rX8_findPoint_go (F : Nat) : Nat → Nat → Nat → Nat → Int32 → wPS → (Int32 → wPS → Prop) → Prop
  | 0, _, _, _, _, _, _ => False
  | k' + 1, lab, l0A, l1A, l2I, S, Φ => if lab = 0 then rX8_findPoint_b0 F (rX8_findPoint_go F k') l0A l1A l2I S Φ else if lab = 1 then rX8_findPoint_b1 F (rX8_findPoint_go F k') l0A l1A l2I S Φ else False
def rX8_findPoint_s (F : Nat) (rec : Nat → Nat → Nat → Int32 → wPS → (Int32 → wPS → Prop) → Prop) (l0A : Nat) (l1A : Nat) (S : wPS) (Φ : (Int32 → wPS → Prop)) : Prop :=
  wkLt (wu_Numbers_basisCount S l0A (gEntry_size S l1A)) fun S22 => rJ7_fill_d0a16 F (wkAd (gNumbers_point S22 l0A)) (0 : Int64) S22 fun v23 S24 => rec 0 l0A l1A (0 : Int32) S24 Φ
def rX8_findPoint (F : Nat) (l0A : Nat) (l1A : Nat) (S : wPS) (Φ : (Int32 → wPS → Prop)) : Prop := rX8_findPoint_s F (rX8_findPoint_go F F) l0A l1A S Φ
set_option maxHeartbeats 4000000 in
set_option maxRecDepth 100000 in
theorem tX8_findPoint_go {l : Launch} {X : wkX} {d F : Nat} {S0 : wPS} {Φ : (Int32 → wPS → Prop)} (C : wkC X cX8_findPoint RX8 3 wvX8_findPoint) (hR : wkRm X d 0 0) (hd : 3 ≤ d) (E : wkEnd l X cX8_findPoint 3 (some .boolean) 0 0 (fun v' S'' => ∃ v : Int32, v' = some (.int v) ∧ Φ v S'' ∧ wkWF S'' ∧ wkExt S0 S'')) : ∀ k' : Nat, (∀ (l0A : Nat) (l1A : Nat) (l2I : Int32) (S : wPS), wkWF S → wkExt S0 S → wkIs S l0A 8 → wkIs S l1A 3 → rX8_findPoint_go F k' 0 l0A l1A l2I S Φ → wkGo l X 3 0 0 18 S [some (.ref l0A), some (.ref l1A), some (.int l2I)] []) ∧ (∀ (l0A : Nat) (l1A : Nat) (l2I : Int32) (S : wPS), wkWF S → wkExt S0 S → wkIs S l0A 8 → wkIs S l1A 3 → rX8_findPoint_go F k' 1 l0A l1A l2I S Φ → wkGo l X 3 0 0 50 S [some (.ref l0A), some (.ref l1A), some (.int l2I)] []) := by
  intro k'
  induction k' with
  | zero => exact ⟨fun l0A l1A l2I S hW hE hl0A hl1A h => h.elim, fun l0A l1A l2I S hW hE hl0A hl1A h => h.elim⟩
  | succ k' ih =>
    refine ⟨?_, ?_⟩
    · intro l0A l1A l2I S hW hE hl0A hl1A h
      have h : rX8_findPoint_b0 F (rX8_findPoint_go F k') l0A l1A l2I S Φ := by
        rw [rX8_findPoint_go, if_pos (rfl : (0 : Nat) = 0)] at h
        exact h
      unfold rX8_findPoint_b0 at h
      refine wk_iload_n C dX8_findPoint_18 rfl rfl ?_
      refine wk_iconst C (v := 4) dX8_findPoint_19 (by decide) ?_
      refine wk_icmp_ge C (tgt := 48) dX8_findPoint_20 (by decide) (fun c1 => ?_) (fun c1 => ?_)
      · rw [if_pos c1] at h
        refine wk_iconst C (v := 0) dX8_findPoint_48 (by decide) ?_
        refine wk_istore_n C (lv' := [some (.ref l0A), some (.ref l1A), some (.int (0 : Int32))]) dX8_findPoint_49 rfl (by decide) rfl ?_
        exact wk_forget (lv' := [some (.ref l0A), some (.ref l1A), some (.int (0 : Int32))]) (wkLs.le ⟨rfl, rfl, rfl, trivial⟩) (ih.2 _ _ _ _ hW hE hl0A hl1A h)
      · rw [if_neg c1] at h
        refine wk_aload_n C dX8_findPoint_23 rfl rfl ?_
        refine wk_get C huX8_findPoint_8 hl0A.1 (fun cy => wAt_8 cy _ hl0A.2) rfl 1 (by decide) (List.mem_of_getElem? (i := 1) rfl) rfl (congrArg some (congrArg va_rf (wf_Numbers_basis hW hl0A).1)) dX8_findPoint_24 ?_
        refine wk_iload_n C dX8_findPoint_27 rfl rfl ?_
        obtain ⟨i2, h⟩ := h
        have w3 := wf_R_J hW (wf_Numbers_basis hW hl0A).2 (Nat.not_le.mp fun q => i2 (Or.inr q))
        refine wk_aald_J C (wf_Numbers_basis hW hl0A).2.1 (wf_Numbers_basis hW hl0A).2.2 i2 w3.1 dX8_findPoint_28 ?_
        refine wk_lconst C (v := 0) dX8_findPoint_29 (by decide) ?_
        refine wk_callW C hR (As := [.ref (wkAd (S.rA (wkAd (gNumbers_basis S l0A)) (l2I).toNatClampNeg)), .long (0 : Int64)]) (cnt := 2) (tJ7_fill_d0a16 (l := l) hW w3.2 h) rfl (wkGoodW (List.mem_of_getElem? (i := 2) rfl) (List.mem_of_getElem? (i := 3) rfl) (List.mem_of_getElem? (i := 4) rfl) hbX8_findPoint_J7_fill_d0a16 gdJ7_fill_d0a16) (Nat.le_trans (by decide : 0 + 1 ≤ 3) hd) (by decide) ⟨by decide, by decide, by decide +kernel⟩ rfl rfl (Nat.le_of_ble_eq_true rfl) (Nat.le_refl 0) (Nat.le_refl 0) dX8_findPoint_30 (fun v' S5 hp => ?_)
        obtain ⟨v4, rfl, h, hWS5, hXS5⟩ := hp
        refine wk_aload_n C dX8_findPoint_33 rfl rfl ?_
        refine wk_get C huX8_findPoint_8 (hXS5 _ _ hl0A).1 (fun cy => wAt_8 cy _ (hXS5 _ _ hl0A).2) rfl 1 (by decide) (List.mem_of_getElem? (i := 1) rfl) rfl (congrArg some (congrArg va_rf (wf_Numbers_basis hWS5 (hXS5 _ _ hl0A)).1)) dX8_findPoint_34 ?_
        refine wk_iload_n C dX8_findPoint_37 rfl rfl ?_
        obtain ⟨i9, h⟩ := h
        have w10 := wf_R_J hWS5 (wf_Numbers_basis hWS5 (hXS5 _ _ hl0A)).2 (Nat.not_le.mp fun q => i9 (Or.inr q))
        refine wk_aald_J C (wf_Numbers_basis hWS5 (hXS5 _ _ hl0A)).2.1 (wf_Numbers_basis hWS5 (hXS5 _ _ hl0A)).2.2 i9 w10.1 dX8_findPoint_38 ?_
        refine wk_iload_n C dX8_findPoint_39 rfl rfl ?_
        refine wk_lconst C (v := 1) dX8_findPoint_40 (by decide) ?_
        obtain ⟨i11, h⟩ := h
        obtain ⟨S12, eS12, h⟩ := wkLt_some h
        refine wk_last C w10.2.1 w10.2.2 i11 eS12.symm dX8_findPoint_41 ?_
        have hWS12 : wkWF S12 := by rw [eS12]; exact hWS5
        have hXS12 : wkExt S5 S12 := by rw [eS12]; exact wkExt.rf
        obtain ⟨x13, ex13, h⟩ := wkLt_some h
        refine wk_iinc C (lv' := [some (.ref l0A), some (.ref l1A), some (.int x13)]) dX8_findPoint_42 rfl (by rw [ex13]; rfl) (by decide) rfl ?_
        refine wk_goto C (tgt := 18) dX8_findPoint_45 (by decide) ?_
        exact wk_forget (lv' := [some (.ref l0A), some (.ref l1A), some (.int x13)]) (wkLs.le ⟨rfl, rfl, rfl, trivial⟩) (ih.1 _ _ _ _ hWS12 (wkExt.tr (wkExt.tr hE hXS5) hXS12) (hXS12 _ _ (hXS5 _ _ hl0A)) (hXS12 _ _ (hXS5 _ _ hl1A)) h)
    · intro l0A l1A l2I S hW hE hl0A hl1A h
      have h : rX8_findPoint_b1 F (rX8_findPoint_go F k') l0A l1A l2I S Φ := by
        rw [rX8_findPoint_go, if_neg (show ¬ (1 : Nat) = 0 by decide), if_pos (rfl : (1 : Nat) = 1)] at h
        exact h
      unfold rX8_findPoint_b1 at h
      refine wk_iload_n C dX8_findPoint_50 rfl rfl ?_
      refine wk_aload_n C dX8_findPoint_51 rfl rfl ?_
      refine wk_get C (v := .int (gEntry_itemCount S l1A)) huX8_findPoint_3 hl1A.1 (fun cy => wAt_3 cy _ hl1A.2) rfl 6 (by decide) (List.mem_of_getElem? (i := 5) rfl) rfl rfl dX8_findPoint_52 ?_
      refine wk_icmp_ge C (tgt := 75) dX8_findPoint_55 (by decide) (fun c14 => ?_) (fun c14 => ?_)
      · rw [if_pos c14] at h
        refine wk_iconst C (v := 1) dX8_findPoint_75 (by decide) ?_
        exact E _ _ _ _ _ _ (Nat.le_refl 0) (Nat.le_refl 0) dX8_findPoint_76 rfl ⟨(1 : Int32), rfl, h, hW, hE⟩
      · rw [if_neg c14] at h
        refine wk_aload_n C dX8_findPoint_58 rfl rfl ?_
        refine wk_aload_n C dX8_findPoint_59 rfl rfl ?_
        refine wk_iload_n C dX8_findPoint_60 rfl rfl ?_
        refine wk_callV C hR (As := [.ref l1A, .int l2I]) (cnt := 2) (tX8_fulfilItem (l := l) hW hl0A hl1A h) rfl (wkGoodV (List.mem_of_getElem? (i := 6) rfl) (List.mem_of_getElem? (i := 7) rfl) (List.mem_of_getElem? (i := 8) rfl) (List.mem_of_getElem? (i := 9) rfl) hbX8_findPoint_X8_fulfilItem gdX8_fulfilItem) (Nat.le_trans (by decide : 2 + 1 ≤ 3) hd) (by decide) hl0A.1 (fun cy => wAt_8 cy _ hl0A.2) rfl ⟨by decide, by decide, by decide +kernel⟩ rfl rfl (Nat.le_of_ble_eq_true rfl) (Nat.le_refl 0) (Nat.le_refl 0) dX8_findPoint_61 (fun v' S16 hp => ?_)
        obtain ⟨v15, rfl, h, hWS16, hXS16⟩ := hp
        refine wk_if_ne C (tgt := 69) dX8_findPoint_64 (by decide) (fun c20 => ?_) (fun c20 => ?_)
        · rw [if_neg c20] at h
          obtain ⟨x21, ex21, h⟩ := wkLt_some h
          refine wk_iinc C (lv' := [some (.ref l0A), some (.ref l1A), some (.int x21)]) dX8_findPoint_69 rfl (by rw [ex21]; rfl) (by decide) rfl ?_
          refine wk_goto C (tgt := 50) dX8_findPoint_72 (by decide) ?_
          exact wk_forget (lv' := [some (.ref l0A), some (.ref l1A), some (.int x21)]) (wkLs.le ⟨rfl, rfl, rfl, trivial⟩) (ih.2 _ _ _ _ hWS16 (wkExt.tr hE hXS16) (hXS16 _ _ hl0A) (hXS16 _ _ hl1A) h)
        · rw [if_pos c20] at h
          refine wk_iconst C (v := 0) dX8_findPoint_67 (by decide) ?_
          exact E _ _ _ _ _ _ (Nat.le_refl 0) (Nat.le_refl 0) dX8_findPoint_68 rfl ⟨(0 : Int32), rfl, h, hWS16, (wkExt.tr hE hXS16)⟩
set_option maxHeartbeats 4000000 in
set_option maxRecDepth 100000 in
theorem tX8_findPoint {l : Launch} {g : wkG} {F : Nat}  {S : wPS} {l0A : Nat} {l1A : Nat} {Φ : (Int32 → wPS → Prop)} (hW : wkWF S) (hl0A : wkIs S l0A 8) (hl1A : wkIs S l1A 3) (h : rX8_findPoint F l0A l1A S Φ) : wkMet l g yX8_findPoint wvX8_findPoint 3 0 0 [.ref l0A, .ref l1A] S (fun v' S'' => ∃ v : Int32, v' = some (.int v) ∧ Φ v S'' ∧ wkWF S'' ∧ wkExt S S'') := by
  refine wkMet_of (ret := (some .boolean)) (by decide) rfl (Nat.le_of_ble_eq_true rfl) (fun X hg C hR E => ?_)
  subst hg
  have hE : wkExt S S := wkExt.rf
  have hd : 3 ≤ 3 := Nat.le_refl _
  show wkGo l X 3 0 0 0 S [some (.ref l0A), some (.ref l1A), none] []
  have ih := tX8_findPoint_go (F := F) C hR hd E F
  have h : rX8_findPoint_s F (rX8_findPoint_go F F) l0A l1A S Φ := h
  unfold rX8_findPoint_s at h
  refine wk_aload_n C dX8_findPoint_0 rfl rfl ?_
  refine wk_aload_n C dX8_findPoint_1 rfl rfl ?_
  refine wk_get C (v := .int (gEntry_size S l1A)) huX8_findPoint_3 hl1A.1 (fun cy => wAt_3 cy _ hl1A.2) rfl 1 (by decide) (List.mem_of_getElem? (i := 10) rfl) rfl rfl dX8_findPoint_2 ?_
  obtain ⟨S22, eS22, h⟩ := wkLt_some h
  refine wk_put C (S' := S22) huX8_findPoint_8 hl0A.1 (fun cy => wAt_8 cy _ hl0A.2) rfl 3 (by decide) (List.mem_of_getElem? (i := 11) rfl) rfl tyX8_ok nmX8 rfl (ty := .int) rfl rfl rfl (by show 3 < 9; decide) (fun cy b => by rw [eS22]; exact wSt_8_3 cy _ hl0A.2 _ b) (by rw [eS22]) dX8_findPoint_5 ?_
  have hWS22 : wkWF S22 := by rw [eS22]; exact hW
  have hXS22 : wkExt S S22 := by rw [eS22]; exact wkExt.rf
  refine wk_aload_n C dX8_findPoint_8 rfl rfl ?_
  refine wk_get C huX8_findPoint_8 (hXS22 _ _ hl0A).1 (fun cy => wAt_8 cy _ (hXS22 _ _ hl0A).2) rfl 0 (by decide) (List.mem_of_getElem? (i := 12) rfl) rfl (congrArg some (congrArg va_rf (wf_Numbers_point hWS22 (hXS22 _ _ hl0A)).1)) dX8_findPoint_9 ?_
  refine wk_lconst C (v := 0) dX8_findPoint_12 (by decide) ?_
  refine wk_callW C hR (As := [.ref (wkAd (gNumbers_point S22 l0A)), .long (0 : Int64)]) (cnt := 2) (tJ7_fill_d0a16 (l := l) hWS22 (wf_Numbers_point hWS22 (hXS22 _ _ hl0A)).2 h) rfl (wkGoodW (List.mem_of_getElem? (i := 2) rfl) (List.mem_of_getElem? (i := 3) rfl) (List.mem_of_getElem? (i := 4) rfl) hbX8_findPoint_J7_fill_d0a16 gdJ7_fill_d0a16) (Nat.le_trans (by decide : 0 + 1 ≤ 3) hd) (by decide) ⟨by decide, by decide, by decide +kernel⟩ rfl rfl (Nat.le_of_ble_eq_true rfl) (Nat.le_refl 0) (Nat.le_refl 0) dX8_findPoint_13 (fun v' S24 hp => ?_)
  obtain ⟨v23, rfl, h, hWS24, hXS24⟩ := hp
  refine wk_iconst C (v := 0) dX8_findPoint_16 (by decide) ?_
  refine wk_istore_n C (lv' := [some (.ref l0A), some (.ref l1A), some (.int (0 : Int32))]) dX8_findPoint_17 rfl (by decide) rfl ?_
  exact wk_forget (lv' := [some (.ref l0A), some (.ref l1A), some (.int (0 : Int32))]) (wkLs.le ⟨rfl, rfl, rfl, trivial⟩) (ih.1 _ _ _ _ hWS24 (wkExt.tr (wkExt.tr hE hXS22) hXS24) (hXS24 _ _ (hXS22 _ _ hl0A)) (hXS24 _ _ (hXS22 _ _ hl1A)) h)
def wvX8_writePrime : List Cond := .code yX8_writePrime cX8_writePrime 6 none :: (([.methodLink RX8 138 yX8_leastDivisor, .static yX8_leastDivisor, .initialized RX8, .methodLink RX8 141 yX8_writePrime, .static yX8_writePrime, .methodLink RX8 148 yX8_withoutDivisor, .static yX8_withoutDivisor, .methodLink RX8 58 yX9_add, .instanceMethod yX9_add, .selects RX9 yX9_add yX9_add, .initialized RX9, .methodLink RX8 145 yX8_baseOf, .static yX8_baseOf] : List Cond) ++ (([]) ++ (wvX8_leastDivisor ++ (wvX8_withoutDivisor ++ (wvX9_add ++ (wvX8_baseOf))))))
theorem hbX8_writePrime_X8_leastDivisor : ∀ w ∈ wvX8_leastDivisor, w ∈ wvX8_writePrime := fun w h => List.mem_cons_of_mem _ (List.mem_append_right _ (List.mem_append_right _ (List.mem_append_left _ h)))
theorem hbX8_writePrime_X8_withoutDivisor : ∀ w ∈ wvX8_withoutDivisor, w ∈ wvX8_writePrime := fun w h => List.mem_cons_of_mem _ (List.mem_append_right _ (List.mem_append_right _ (List.mem_append_right _ (List.mem_append_left _ h))))
theorem hbX8_writePrime_X9_add : ∀ w ∈ wvX9_add, w ∈ wvX8_writePrime := fun w h => List.mem_cons_of_mem _ (List.mem_append_right _ (List.mem_append_right _ (List.mem_append_right _ (List.mem_append_right _ (List.mem_append_left _ h)))))
theorem hbX8_writePrime_X8_baseOf : ∀ w ∈ wvX8_baseOf, w ∈ wvX8_writePrime := fun w h => List.mem_cons_of_mem _ (List.mem_append_right _ (List.mem_append_right _ (List.mem_append_right _ (List.mem_append_right _ (List.mem_append_right _ h)))))
theorem gdX8_writePrime : ∀ w ∈ wvX8_writePrime, wkGd w := wkGdC rfl (wkGdA (wkGdL (by decide +kernel)) (wkGdA (fun _ h => absurd h List.not_mem_nil) (wkGdA gdX8_leastDivisor (wkGdA gdX8_withoutDivisor (wkGdA gdX9_add gdX8_baseOf)))))
def rX8_writePrime_b0 (F : Nat) (k n : Nat) (rc : Nat → Nat → Int32 → Nat → Int32 → wPS → (Unit → wPS → Prop) → Prop) (rec : Nat → Nat → Nat → Nat → Int32 → Int32 → Int32 → wPS → (Unit → wPS → Prop) → Prop) (c s : Nat) (l1A : Nat) (l2I : Int32) (l3I : Int32) (l4I : Int32) (S : wPS) (Φ : (Unit → wPS → Prop)) : Prop :=
  if (40 : Int32) ≤ l4I then (Φ () S) else (if l3I ≤ (1 : Int32) then (Φ () S) else (rX8_leastDivisor F l3I S fun v3 S4 => ∃ k11 n12 : Nat, c + k11 ≤ k ∧ s + n12 ≤ n ∧ rc k11 n12 v3 l1A (l2I + (1 : Int32)) S4 fun v8 S9 => rX8_withoutDivisor F l3I v3 S9 fun v13 S14 => wkLt (l4I + (1 : Int32)) fun x18 => rec 0 (c + k11) (s + n12) l1A l2I v13 x18 S14 Φ))
def rX8_writePrime_go (F : Nat) (k n : Nat) (rc : Nat → Nat → Int32 → Nat → Int32 → wPS → (Unit → wPS → Prop) → Prop) : Nat → Nat → Nat → Nat → Nat → Int32 → Int32 → Int32 → wPS → (Unit → wPS → Prop) → Prop
  | 0, _, _, _, _, _, _, _, _, _ => False
  | k' + 1, lab, c, s, l1A, l2I, l3I, l4I, S, Φ => if lab = 0 then rX8_writePrime_b0 F k n rc (rX8_writePrime_go F k n rc k') c s l1A l2I l3I l4I S Φ else False
def rX8_writePrime_s (F : Nat) (k n : Nat) (rc : Nat → Nat → Int32 → Nat → Int32 → wPS → (Unit → wPS → Prop) → Prop) (rec : Nat → Nat → Nat → Nat → Int32 → Int32 → Int32 → wPS → (Unit → wPS → Prop) → Prop) (l0I : Int32) (l1A : Nat) (l2I : Int32) (S : wPS) (Φ : (Unit → wPS → Prop)) : Prop :=
  ∃ k22 n23 : Nat, 0 + k22 ≤ k ∧ 0 + n23 ≤ n ∧ rX9_add F k22 n23 l1A l0I S fun v19 S20 => if l0I ≤ (2 : Int32) then (Φ () S20) else (if l2I ≤ (40 : Int32) then (rX8_baseOf F l0I S20 fun v26 S27 => ∃ k34 n35 : Nat, (0 + k22) + k34 ≤ k ∧ (0 + n23) + n35 ≤ n ∧ rX9_add F k34 n35 l1A v26 S27 fun v31 S32 => wkLt ((l0I - (1 : Int32))) fun x36 => rec 0 ((0 + k22) + k34) ((0 + n23) + n35) l1A l2I x36 (0 : Int32) S32 Φ) else (Φ () S20))
def rX8_writePrime_a (F : Nat) (k n : Nat) (rc : Nat → Nat → Int32 → Nat → Int32 → wPS → (Unit → wPS → Prop) → Prop) (l0I : Int32) (l1A : Nat) (l2I : Int32) (S : wPS) (Φ : (Unit → wPS → Prop)) : Prop := rX8_writePrime_s F k n rc (rX8_writePrime_go F k n rc F) l0I l1A l2I S Φ
def rX8_writePrime (F : Nat) : Nat → Nat → Nat → Int32 → Nat → Int32 → wPS → (Unit → wPS → Prop) → Prop
  | 0, _, _, _, _, _, _, _ => False
  | j + 1, k, n, l0I, l1A, l2I, S, Φ => rX8_writePrime_a F k n (rX8_writePrime F j) l0I l1A l2I S Φ
set_option maxHeartbeats 4000000 in
set_option maxRecDepth 100000 in
theorem tX8_writePrime_go {d0 : Nat} {rc : Nat → Nat → Int32 → Nat → Int32 → wPS → (Unit → wPS → Prop) → Prop} {k n : Nat} {l : Launch} {X : wkX} {d F : Nat} {S0 : wPS} {Φ : (Unit → wPS → Prop)} (C : wkC X cX8_writePrime RX8 6 wvX8_writePrime) (hR : wkRm X d k n) (hd : 3 ≤ d) (hrc : ∀ (k n : Nat) (l0I : Int32) (l1A : Nat) (l2I : Int32) (S : wPS) (Φ : (Unit → wPS → Prop)), wkWF S → wkIs S l1A 9 → rc k n l0I l1A l2I S Φ → wkMet l (wkXg X) yX8_writePrime wvX8_writePrime d0 k n [.int l0I, .ref l1A, .int l2I] S (fun v' S'' => ∃ v : Unit, v' = none ∧ Φ v S'' ∧ wkWF S'' ∧ wkExt S S'')) (hd0 : d0 + 1 ≤ d) (E : wkEnd l X cX8_writePrime 6 none k n (fun v' S'' => ∃ v : Unit, v' = none ∧ Φ v S'' ∧ wkWF S'' ∧ wkExt S0 S'')) : ∀ k' : Nat, (∀ (c s : Nat), c ≤ k → s ≤ n → ∀ (l1A : Nat) (l2I : Int32) (l3I : Int32) (l4I : Int32) (S : wPS), wkWF S → wkExt S0 S → wkIs S l1A 9 → rX8_writePrime_go F k n rc k' 0 c s l1A l2I l3I l4I S Φ → wkGo l X 6 c s 32 S [none, some (.ref l1A), some (.int l2I), some (.int l3I), some (.int l4I), none] []) := by
  intro k'
  induction k' with
  | zero => exact fun c s hc hs l1A l2I l3I l4I S hW hE hl1A h => h.elim
  | succ k' ih =>
    · intro c s hc hs l1A l2I l3I l4I S hW hE hl1A h
      have h : rX8_writePrime_b0 F k n rc (rX8_writePrime_go F k n rc k') c s l1A l2I l3I l4I S Φ := by
        rw [rX8_writePrime_go, if_pos (rfl : (0 : Nat) = 0)] at h
        exact h
      unfold rX8_writePrime_b0 at h
      refine wk_iload C dX8_writePrime_32 rfl ?_
      refine wk_bipush C (v := 40) dX8_writePrime_34 (by decide) ?_
      refine wk_icmp_ge C (tgt := 72) dX8_writePrime_36 (by decide) (fun c1 => ?_) (fun c1 => ?_)
      · rw [if_pos c1] at h
        exact E _ _ _ _ _ hc hs dX8_writePrime_72 ⟨(), rfl, h, hW, hE⟩
      · rw [if_neg c1] at h
        refine wk_iload_n C dX8_writePrime_39 rfl rfl ?_
        refine wk_iconst C (v := 1) dX8_writePrime_40 (by decide) ?_
        refine wk_icmp_le C (tgt := 72) dX8_writePrime_41 (by decide) (fun c2 => ?_) (fun c2 => ?_)
        · rw [if_pos c2] at h
          exact E _ _ _ _ _ hc hs dX8_writePrime_72 ⟨(), rfl, h, hW, hE⟩
        · rw [if_neg c2] at h
          refine wk_iload_n C dX8_writePrime_44 rfl rfl ?_
          refine wk_callW C hR (As := [.int l3I]) (cnt := 1) (tX8_leastDivisor (l := l) hW  h) rfl (wkGoodW (List.mem_of_getElem? (i := 1) rfl) (List.mem_of_getElem? (i := 2) rfl) (List.mem_of_getElem? (i := 3) rfl) hbX8_writePrime_X8_leastDivisor gdX8_leastDivisor) (Nat.le_trans (by decide : 0 + 1 ≤ 3) hd) (by decide) ⟨by decide, by decide, by decide +kernel⟩ rfl rfl (Nat.le_of_ble_eq_true rfl) hc hs dX8_writePrime_45 (fun v' S4 hp => ?_)
          obtain ⟨v3, rfl, h, hWS4, hXS4⟩ := hp
          refine wk_istore C (lv' := [none, some (.ref l1A), some (.int l2I), some (.int l3I), some (.int l4I), some (.int v3)]) dX8_writePrime_48 (by decide) rfl ?_
          refine wk_iload C dX8_writePrime_50 rfl ?_
          refine wk_aload_n C dX8_writePrime_52 rfl rfl ?_
          refine wk_iload_n C dX8_writePrime_53 rfl rfl ?_
          refine wk_iconst C (v := 1) dX8_writePrime_54 (by decide) ?_
          refine wk_iadd C dX8_writePrime_55 rfl ?_
          obtain ⟨k11, n12, hk11, hn12, h⟩ := h
          refine wk_callW C hR (As := [.int v3, .ref l1A, .int (l2I + (1 : Int32))]) (cnt := 3) (hrc _ _ _ _ _ _ _ hWS4 (hXS4 _ _ hl1A) h) rfl (wkGoodW (List.mem_of_getElem? (i := 4) rfl) (List.mem_of_getElem? (i := 5) rfl) (List.mem_of_getElem? (i := 3) rfl) (fun w h => h) gdX8_writePrime) hd0 (by decide) ⟨by decide, by decide, by decide +kernel⟩ rfl rfl (Nat.le_of_ble_eq_true rfl) hk11 hn12 dX8_writePrime_56 (fun v' S9 hp => ?_)
          obtain ⟨v8, rfl, h, hWS9, hXS9⟩ := hp
          refine wk_iload_n C dX8_writePrime_59 rfl rfl ?_
          refine wk_iload C dX8_writePrime_60 rfl ?_
          refine wk_callW C hR (As := [.int l3I, .int v3]) (cnt := 2) (tX8_withoutDivisor (l := l) hWS9  h) rfl (wkGoodW (List.mem_of_getElem? (i := 6) rfl) (List.mem_of_getElem? (i := 7) rfl) (List.mem_of_getElem? (i := 3) rfl) hbX8_writePrime_X8_withoutDivisor gdX8_withoutDivisor) (Nat.le_trans (by decide : 0 + 1 ≤ 3) hd) (by decide) ⟨by decide, by decide, by decide +kernel⟩ rfl rfl (Nat.le_of_ble_eq_true rfl) hk11 hn12 dX8_writePrime_62 (fun v' S14 hp => ?_)
          obtain ⟨v13, rfl, h, hWS14, hXS14⟩ := hp
          refine wk_istore_n C (lv' := [none, some (.ref l1A), some (.int l2I), some (.int v13), some (.int l4I), some (.int v3)]) dX8_writePrime_65 rfl (by decide) rfl ?_
          obtain ⟨x18, ex18, h⟩ := wkLt_some h
          refine wk_iinc C (lv' := [none, some (.ref l1A), some (.int l2I), some (.int v13), some (.int x18), some (.int v3)]) dX8_writePrime_66 rfl (by rw [ex18]; rfl) (by decide) rfl ?_
          refine wk_goto C (tgt := 32) dX8_writePrime_69 (by decide) ?_
          exact wk_forget (lv' := [none, some (.ref l1A), some (.int l2I), some (.int v13), some (.int x18), none]) (wkLs.le ⟨rfl, rfl, rfl, rfl, trivial⟩) (ih _ _ hk11 hn12 _ _ _ _ _ hWS14 (wkExt.tr (wkExt.tr (wkExt.tr hE hXS4) hXS9) hXS14) (hXS14 _ _ (hXS9 _ _ (hXS4 _ _ hl1A))) h)
set_option maxHeartbeats 4000000 in
set_option maxRecDepth 100000 in
theorem tX8_writePrime_a {l : Launch} {g : wkG} {F d0 : Nat} {k n : Nat} {rc : Nat → Nat → Int32 → Nat → Int32 → wPS → (Unit → wPS → Prop) → Prop} (hrc : ∀ (k n : Nat) (l0I : Int32) (l1A : Nat) (l2I : Int32) (S : wPS) (Φ : (Unit → wPS → Prop)), wkWF S → wkIs S l1A 9 → rc k n l0I l1A l2I S Φ → wkMet l g yX8_writePrime wvX8_writePrime d0 k n [.int l0I, .ref l1A, .int l2I] S (fun v' S'' => ∃ v : Unit, v' = none ∧ Φ v S'' ∧ wkWF S'' ∧ wkExt S S'')) {S : wPS} {l0I : Int32} {l1A : Nat} {l2I : Int32} {Φ : (Unit → wPS → Prop)} (hW : wkWF S) (hl1A : wkIs S l1A 9) (h : rX8_writePrime_a F k n rc l0I l1A l2I S Φ) {d : Nat} (hd0 : d0 + 1 ≤ d) (hd : 3 ≤ d) : wkMet l g yX8_writePrime wvX8_writePrime d k n [.int l0I, .ref l1A, .int l2I] S (fun v' S'' => ∃ v : Unit, v' = none ∧ Φ v S'' ∧ wkWF S'' ∧ wkExt S S'') := by
  refine wkMet_of (ret := none) (by decide) rfl (Nat.le_of_ble_eq_true rfl) (fun X hg C hR E => ?_)
  subst hg
  have hE : wkExt S S := wkExt.rf
  show wkGo l X 6 0 0 0 S [some (.int l0I), some (.ref l1A), some (.int l2I), none, none, none] []
  have ih := tX8_writePrime_go (F := F) C hR hd hrc hd0 E F
  have h : rX8_writePrime_s F k n rc (rX8_writePrime_go F k n rc F) l0I l1A l2I S Φ := h
  unfold rX8_writePrime_s at h
  refine wk_aload_n C dX8_writePrime_0 rfl rfl ?_
  refine wk_iload_n C dX8_writePrime_1 rfl rfl ?_
  obtain ⟨k22, n23, hk22, hn23, h⟩ := h
  refine wk_callV C hR (As := [.int l0I]) (cnt := 1) (tX9_add (l := l) hW hl1A h) rfl (wkGoodV (List.mem_of_getElem? (i := 8) rfl) (List.mem_of_getElem? (i := 9) rfl) (List.mem_of_getElem? (i := 10) rfl) (List.mem_of_getElem? (i := 11) rfl) hbX8_writePrime_X9_add gdX9_add) (Nat.le_trans (by decide : 2 + 1 ≤ 3) hd) (by decide) hl1A.1 (fun cy => wAt_9 cy _ hl1A.2) rfl ⟨by decide, by decide, by decide +kernel⟩ rfl rfl (Nat.le_of_ble_eq_true rfl) hk22 hn23 dX8_writePrime_2 (fun v' S20 hp => ?_)
  obtain ⟨v19, rfl, h, hWS20, hXS20⟩ := hp
  refine wk_iload_n C dX8_writePrime_5 rfl rfl ?_
  refine wk_iconst C (v := 2) dX8_writePrime_6 (by decide) ?_
  refine wk_icmp_le C (tgt := 16) dX8_writePrime_7 (by decide) (fun c24 => ?_) (fun c24 => ?_)
  · rw [if_pos c24] at h
    exact E _ _ _ _ _ hk22 hn23 dX8_writePrime_16 ⟨(), rfl, h, hWS20, (wkExt.tr hE hXS20)⟩
  · rw [if_neg c24] at h
    refine wk_iload_n C dX8_writePrime_10 rfl rfl ?_
    refine wk_bipush C (v := 40) dX8_writePrime_11 (by decide) ?_
    refine wk_icmp_le C (tgt := 17) dX8_writePrime_13 (by decide) (fun c25 => ?_) (fun c25 => ?_)
    · rw [if_pos c25] at h
      refine wk_aload_n C dX8_writePrime_17 rfl rfl ?_
      refine wk_iload_n C dX8_writePrime_18 rfl rfl ?_
      refine wk_callW C hR (As := [.int l0I]) (cnt := 1) (tX8_baseOf (l := l) hWS20  h) rfl (wkGoodW (List.mem_of_getElem? (i := 12) rfl) (List.mem_of_getElem? (i := 13) rfl) (List.mem_of_getElem? (i := 3) rfl) hbX8_writePrime_X8_baseOf gdX8_baseOf) (Nat.le_trans (by decide : 2 + 1 ≤ 3) hd) (by decide) ⟨by decide, by decide, by decide +kernel⟩ rfl rfl (Nat.le_of_ble_eq_true rfl) hk22 hn23 dX8_writePrime_19 (fun v' S27 hp => ?_)
      obtain ⟨v26, rfl, h, hWS27, hXS27⟩ := hp
      obtain ⟨k34, n35, hk34, hn35, h⟩ := h
      refine wk_callV C hR (As := [.int v26]) (cnt := 1) (tX9_add (l := l) hWS27 (hXS27 _ _ (hXS20 _ _ hl1A)) h) rfl (wkGoodV (List.mem_of_getElem? (i := 8) rfl) (List.mem_of_getElem? (i := 9) rfl) (List.mem_of_getElem? (i := 10) rfl) (List.mem_of_getElem? (i := 11) rfl) hbX8_writePrime_X9_add gdX9_add) (Nat.le_trans (by decide : 2 + 1 ≤ 3) hd) (by decide) (hXS27 _ _ (hXS20 _ _ hl1A)).1 (fun cy => wAt_9 cy _ (hXS27 _ _ (hXS20 _ _ hl1A)).2) rfl ⟨by decide, by decide, by decide +kernel⟩ rfl rfl (Nat.le_of_ble_eq_true rfl) hk34 hn35 dX8_writePrime_22 (fun v' S32 hp => ?_)
      obtain ⟨v31, rfl, h, hWS32, hXS32⟩ := hp
      refine wk_iload_n C dX8_writePrime_25 rfl rfl ?_
      refine wk_iconst C (v := 1) dX8_writePrime_26 (by decide) ?_
      refine wk_isub C dX8_writePrime_27 rfl ?_
      obtain ⟨x36, ex36, h⟩ := wkLt_some h
      refine wk_topi ex36 ?_
      refine wk_istore_n C (lv' := [some (.int l0I), some (.ref l1A), some (.int l2I), some (.int x36), none, none]) dX8_writePrime_28 rfl (by decide) rfl ?_
      refine wk_iconst C (v := 0) dX8_writePrime_29 (by decide) ?_
      refine wk_istore C (lv' := [some (.int l0I), some (.ref l1A), some (.int l2I), some (.int x36), some (.int (0 : Int32)), none]) dX8_writePrime_30 (by decide) rfl ?_
      exact wk_forget (lv' := [none, some (.ref l1A), some (.int l2I), some (.int x36), some (.int (0 : Int32)), none]) (wkLs.le ⟨rfl, rfl, rfl, rfl, trivial⟩) (ih _ _ hk34 hn35 _ _ _ _ _ hWS32 (wkExt.tr (wkExt.tr (wkExt.tr hE hXS20) hXS27) hXS32) (hXS32 _ _ (hXS27 _ _ (hXS20 _ _ hl1A))) h)
    · rw [if_neg c25] at h
      exact E _ _ _ _ _ hk22 hn23 dX8_writePrime_16 ⟨(), rfl, h, hWS20, (wkExt.tr hE hXS20)⟩
theorem tX8_writePrime_d {l : Launch} {g : wkG} {F : Nat} : ∀ (j : Nat) (k n : Nat) (l0I : Int32) (l1A : Nat) (l2I : Int32) (S : wPS) (Φ : (Unit → wPS → Prop)), wkWF S → wkIs S l1A 9 → rX8_writePrime F j k n l0I l1A l2I S Φ → wkMet l g yX8_writePrime wvX8_writePrime (3 + j) k n [.int l0I, .ref l1A, .int l2I] S (fun v' S'' => ∃ v : Unit, v' = none ∧ Φ v S'' ∧ wkWF S'' ∧ wkExt S S'')
  | 0, _, _, _, _, _, _, _, _, _,  h => h.elim
  | j + 1, _, _, _, _, _, S, Φ, hW, hl1A,  h => tX8_writePrime_a (d0 := 3 + j) (tX8_writePrime_d j) hW hl1A (d := 3 + (j + 1)) h (by omega) (by omega)
theorem tX8_writePrime {l : Launch} {g : wkG} {F : Nat} {k n : Nat} {S : wPS} {l0I : Int32} {l1A : Nat} {l2I : Int32} {Φ : (Unit → wPS → Prop)} (hW : wkWF S) (hl1A : wkIs S l1A 9) (h : rX8_writePrime F 48 k n l0I l1A l2I S Φ) : wkMet l g yX8_writePrime wvX8_writePrime 51 k n [.int l0I, .ref l1A, .int l2I] S (fun v' S'' => ∃ v : Unit, v' = none ∧ Φ v S'' ∧ wkWF S'' ∧ wkExt S S'') := tX8_writePrime_d 48 _ _ _ _ _ S Φ hW hl1A h
