def wvX7_letterOf : List Cond := .code yX7_letterOf cX7_letterOf 4 (some .char) :: (([.fieldLink RX7 9 "Witnessworks$Networks" "near" "[I", .static yX11_has, .initialized RX11, .methodLink RX7 100 yX7_canBeAlone, .instanceMethod yX7_canBeAlone, .selects RX7 yX7_canBeAlone yX7_canBeAlone, .initialized RX7] : List Cond) ++ ((wsX70) ++ (wvX11_has ++ (wvX7_canBeAlone))))
theorem huX7_letterOf_7 : ∀ w ∈ u_ws RX7 TX7 11, w ∈ wvX7_letterOf := fun w h => List.mem_cons_of_mem _ (List.mem_append_right _ (List.mem_append_left _ h))
theorem hbX7_letterOf_X11_has : ∀ w ∈ wvX11_has, w ∈ wvX7_letterOf := fun w h => List.mem_cons_of_mem _ (List.mem_append_right _ (List.mem_append_right _ (List.mem_append_left _ h)))
theorem hbX7_letterOf_X7_canBeAlone : ∀ w ∈ wvX7_canBeAlone, w ∈ wvX7_letterOf := fun w h => List.mem_cons_of_mem _ (List.mem_append_right _ (List.mem_append_right _ (List.mem_append_right _ h)))
theorem gdX7_letterOf : ∀ w ∈ wvX7_letterOf, wkGd w := wkGdC rfl (wkGdA (wkGdL (by decide +kernel)) (wkGdA gdX7 (wkGdA gdX11_has gdX7_canBeAlone)))
def rX7_letterOf_b0 (F : Nat) (rec : Nat → Nat → Int32 → Int32 → Int32 → wPS → (Int32 → wPS → Prop) → Prop) (l0A : Nat) (l1I : Int32) (l2I : Int32) (l3I : Int32) (S : wPS) (Φ : (Int32 → wPS → Prop)) : Prop :=
  if l1I ≤ l3I then ((((99 : Int32) : Int32).toUInt32 % 65536).toInt32 = (99 : Int32) ∧ Φ (99 : Int32) S) else (¬ (l2I < 0 ∨ S.len (wkAd (gNetworks_near S l0A)) ≤ (l2I).toNatClampNeg) ∧ rX11_has F (S.rI (wkAd (gNetworks_near S l0A)) (l2I).toNatClampNeg) l3I S fun v4 S5 => if v4 = 0 then (wkLt (l3I + (1 : Int32)) fun x10 => rec 0 l0A l1I l2I x10 S5 Φ) else (rX7_canBeAlone F l0A l1I l3I S5 fun v11 S12 => if v11 = 0 then (wkLt (l3I + (1 : Int32)) fun x17 => rec 0 l0A l1I l2I x17 S12 Φ) else ((((97 : Int32) : Int32).toUInt32 % 65536).toInt32 = (97 : Int32) ∧ Φ (97 : Int32) S12)))
def rX7_letterOf_go (F : Nat) : Nat → Nat → Nat → Int32 → Int32 → Int32 → wPS → (Int32 → wPS → Prop) → Prop
  | 0, _, _, _, _, _, _, _ => False
  | k' + 1, lab, l0A, l1I, l2I, l3I, S, Φ => if lab = 0 then rX7_letterOf_b0 F (rX7_letterOf_go F k') l0A l1I l2I l3I S Φ else False
def rX7_letterOf_s (F : Nat) (rec : Nat → Nat → Int32 → Int32 → Int32 → wPS → (Int32 → wPS → Prop) → Prop) (l0A : Nat) (l1I : Int32) (l2I : Int32) (S : wPS) (Φ : (Int32 → wPS → Prop)) : Prop :=
  rX7_canBeAlone F l0A l1I l2I S fun v19 S20 => if v19 = 0 then (rec 0 l0A l1I l2I (0 : Int32) S20 Φ) else ((((100 : Int32) : Int32).toUInt32 % 65536).toInt32 = (100 : Int32) ∧ Φ (100 : Int32) S20)
def rX7_letterOf (F : Nat) (l0A : Nat) (l1I : Int32) (l2I : Int32) (S : wPS) (Φ : (Int32 → wPS → Prop)) : Prop := rX7_letterOf_s F (rX7_letterOf_go F F) l0A l1I l2I S Φ
set_option maxHeartbeats 4000000 in
set_option maxRecDepth 100000 in
theorem tX7_letterOf_go {l : Launch} {X : wkX} {d F : Nat} {S0 : wPS} {Φ : (Int32 → wPS → Prop)} (C : wkC X cX7_letterOf RX7 4 wvX7_letterOf) (hR : wkRm X d 0 0) (hd : 1 ≤ d) (E : wkEnd l X cX7_letterOf 4 (some .char) 0 0 (fun v' S'' => ∃ v : Int32, v' = some (.int v) ∧ Φ v S'' ∧ wkWF S'' ∧ wkExt S0 S'')) : ∀ k' : Nat, (∀ (l0A : Nat) (l1I : Int32) (l2I : Int32) (l3I : Int32) (S : wPS), wkWF S → wkExt S0 S → wkIs S l0A 7 → rX7_letterOf_go F k' 0 l0A l1I l2I l3I S Φ → wkGo l X 4 0 0 14 S [some (.ref l0A), some (.int l1I), some (.int l2I), some (.int l3I)] []) := by
  intro k'
  induction k' with
  | zero => exact fun l0A l1I l2I l3I S hW hE hl0A h => h.elim
  | succ k' ih =>
    · intro l0A l1I l2I l3I S hW hE hl0A h
      have h : rX7_letterOf_b0 F (rX7_letterOf_go F k') l0A l1I l2I l3I S Φ := by
        rw [rX7_letterOf_go, if_pos (rfl : (0 : Nat) = 0)] at h
        exact h
      unfold rX7_letterOf_b0 at h
      refine wk_iload_n C dX7_letterOf_14 rfl rfl ?_
      refine wk_iload_n C dX7_letterOf_15 rfl rfl ?_
      refine wk_icmp_ge C (tgt := 50) dX7_letterOf_16 (by decide) (fun c1 => ?_) (fun c1 => ?_)
      · rw [if_pos c1] at h
        refine wk_bipush C (v := 99) dX7_letterOf_50 (by decide) ?_
        obtain ⟨b2, h⟩ := h
        exact E _ _ _ _ _ _ (Nat.le_refl 0) (Nat.le_refl 0) dX7_letterOf_52 (wkNarC b2) ⟨(99 : Int32), rfl, h, hW, hE⟩
      · rw [if_neg c1] at h
        refine wk_aload_n C dX7_letterOf_19 rfl rfl ?_
        refine wk_get C huX7_letterOf_7 hl0A.1 (fun cy => wAt_7 cy _ hl0A.2) rfl 0 (by decide) (List.mem_of_getElem? (i := 1) rfl) rfl (congrArg some (congrArg va_rf (wf_Networks_near hW hl0A).1)) dX7_letterOf_20 ?_
        refine wk_iload_n C dX7_letterOf_23 rfl rfl ?_
        obtain ⟨i3, h⟩ := h
        refine wk_iald C (wf_Networks_near hW hl0A).2.1 (wf_Networks_near hW hl0A).2.2 i3 rfl dX7_letterOf_24 ?_
        refine wk_iload_n C dX7_letterOf_25 rfl rfl ?_
        refine wk_callN C hR (y := yX11_has) (host := "Witnessworks") (As := [.int (S.rI (wkAd (gNetworks_near S l0A)) (l2I).toNatClampNeg), .int l3I]) (cnt := 2) (tX11_has (l := l) hW  h) rfl (fun w h => ⟨hbX7_letterOf_X11_has w h, gdX11_has w h⟩) (by decide +kernel) (List.mem_of_getElem? (i := 2) rfl) (List.mem_of_getElem? (i := 3) rfl) (Nat.le_trans (by decide : 0 + 1 ≤ 1) hd) (by decide) ⟨by decide, by decide, by decide +kernel⟩ rfl rfl (Nat.le_of_ble_eq_true rfl) (Nat.le_refl 0) (Nat.le_refl 0) dX7_letterOf_26 (fun v' S5 hp => ?_)
        obtain ⟨v4, rfl, h, hWS5, hXS5⟩ := hp
        refine wk_if_eq C (tgt := 44) dX7_letterOf_29 (by decide) (fun c9 => ?_) (fun c9 => ?_)
        · rw [if_pos c9] at h
          obtain ⟨x10, ex10, h⟩ := wkLt_some h
          refine wk_iinc C (lv' := [some (.ref l0A), some (.int l1I), some (.int l2I), some (.int x10)]) dX7_letterOf_44 rfl (by rw [ex10]; rfl) (by decide) rfl ?_
          refine wk_goto C (tgt := 14) dX7_letterOf_47 (by decide) ?_
          exact wk_forget (lv' := [some (.ref l0A), some (.int l1I), some (.int l2I), some (.int x10)]) (wkLs.le ⟨rfl, rfl, rfl, rfl, trivial⟩) (ih _ _ _ _ _ hWS5 (wkExt.tr hE hXS5) (hXS5 _ _ hl0A) h)
        · rw [if_neg c9] at h
          refine wk_aload_n C dX7_letterOf_32 rfl rfl ?_
          refine wk_iload_n C dX7_letterOf_33 rfl rfl ?_
          refine wk_iload_n C dX7_letterOf_34 rfl rfl ?_
          refine wk_callV C hR (As := [.int l1I, .int l3I]) (cnt := 2) (tX7_canBeAlone (l := l) hWS5 (hXS5 _ _ hl0A) h) rfl (wkGoodV (List.mem_of_getElem? (i := 4) rfl) (List.mem_of_getElem? (i := 5) rfl) (List.mem_of_getElem? (i := 6) rfl) (List.mem_of_getElem? (i := 7) rfl) hbX7_letterOf_X7_canBeAlone gdX7_canBeAlone) (Nat.le_trans (by decide : 0 + 1 ≤ 1) hd) (by decide) (hXS5 _ _ hl0A).1 (fun cy => wAt_7 cy _ (hXS5 _ _ hl0A).2) rfl ⟨by decide, by decide, by decide +kernel⟩ rfl rfl (Nat.le_of_ble_eq_true rfl) (Nat.le_refl 0) (Nat.le_refl 0) dX7_letterOf_35 (fun v' S12 hp => ?_)
          obtain ⟨v11, rfl, h, hWS12, hXS12⟩ := hp
          refine wk_if_eq C (tgt := 44) dX7_letterOf_38 (by decide) (fun c16 => ?_) (fun c16 => ?_)
          · rw [if_pos c16] at h
            obtain ⟨x17, ex17, h⟩ := wkLt_some h
            refine wk_iinc C (lv' := [some (.ref l0A), some (.int l1I), some (.int l2I), some (.int x17)]) dX7_letterOf_44 rfl (by rw [ex17]; rfl) (by decide) rfl ?_
            refine wk_goto C (tgt := 14) dX7_letterOf_47 (by decide) ?_
            exact wk_forget (lv' := [some (.ref l0A), some (.int l1I), some (.int l2I), some (.int x17)]) (wkLs.le ⟨rfl, rfl, rfl, rfl, trivial⟩) (ih _ _ _ _ _ hWS12 (wkExt.tr (wkExt.tr hE hXS5) hXS12) (hXS12 _ _ (hXS5 _ _ hl0A)) h)
          · rw [if_neg c16] at h
            refine wk_bipush C (v := 97) dX7_letterOf_41 (by decide) ?_
            obtain ⟨b18, h⟩ := h
            exact E _ _ _ _ _ _ (Nat.le_refl 0) (Nat.le_refl 0) dX7_letterOf_43 (wkNarC b18) ⟨(97 : Int32), rfl, h, hWS12, (wkExt.tr (wkExt.tr hE hXS5) hXS12)⟩
set_option maxHeartbeats 4000000 in
set_option maxRecDepth 100000 in
theorem tX7_letterOf {l : Launch} {g : wkG} {F : Nat}  {S : wPS} {l0A : Nat} {l1I : Int32} {l2I : Int32} {Φ : (Int32 → wPS → Prop)} (hW : wkWF S) (hl0A : wkIs S l0A 7) (h : rX7_letterOf F l0A l1I l2I S Φ) : wkMet l g yX7_letterOf wvX7_letterOf 1 0 0 [.ref l0A, .int l1I, .int l2I] S (fun v' S'' => ∃ v : Int32, v' = some (.int v) ∧ Φ v S'' ∧ wkWF S'' ∧ wkExt S S'') := by
  refine wkMet_of (ret := (some .char)) (by decide) rfl (Nat.le_of_ble_eq_true rfl) (fun X hg C hR E => ?_)
  subst hg
  have hE : wkExt S S := wkExt.rf
  have hd : 1 ≤ 1 := Nat.le_refl _
  show wkGo l X 4 0 0 0 S [some (.ref l0A), some (.int l1I), some (.int l2I), none] []
  have ih := tX7_letterOf_go (F := F) C hR hd E F
  have h : rX7_letterOf_s F (rX7_letterOf_go F F) l0A l1I l2I S Φ := h
  unfold rX7_letterOf_s at h
  refine wk_aload_n C dX7_letterOf_0 rfl rfl ?_
  refine wk_iload_n C dX7_letterOf_1 rfl rfl ?_
  refine wk_iload_n C dX7_letterOf_2 rfl rfl ?_
  refine wk_callV C hR (As := [.int l1I, .int l2I]) (cnt := 2) (tX7_canBeAlone (l := l) hW hl0A h) rfl (wkGoodV (List.mem_of_getElem? (i := 4) rfl) (List.mem_of_getElem? (i := 5) rfl) (List.mem_of_getElem? (i := 6) rfl) (List.mem_of_getElem? (i := 7) rfl) hbX7_letterOf_X7_canBeAlone gdX7_canBeAlone) (Nat.le_trans (by decide : 0 + 1 ≤ 1) hd) (by decide) hl0A.1 (fun cy => wAt_7 cy _ hl0A.2) rfl ⟨by decide, by decide, by decide +kernel⟩ rfl rfl (Nat.le_of_ble_eq_true rfl) (Nat.le_refl 0) (Nat.le_refl 0) dX7_letterOf_3 (fun v' S20 hp => ?_)
  obtain ⟨v19, rfl, h, hWS20, hXS20⟩ := hp
  refine wk_if_eq C (tgt := 12) dX7_letterOf_6 (by decide) (fun c24 => ?_) (fun c24 => ?_)
  · rw [if_pos c24] at h
    refine wk_iconst C (v := 0) dX7_letterOf_12 (by decide) ?_
    refine wk_istore_n C (lv' := [some (.ref l0A), some (.int l1I), some (.int l2I), some (.int (0 : Int32))]) dX7_letterOf_13 rfl (by decide) rfl ?_
    exact wk_forget (lv' := [some (.ref l0A), some (.int l1I), some (.int l2I), some (.int (0 : Int32))]) (wkLs.le ⟨rfl, rfl, rfl, rfl, trivial⟩) (ih _ _ _ _ _ hWS20 (wkExt.tr hE hXS20) (hXS20 _ _ hl0A) h)
  · rw [if_neg c24] at h
    refine wk_bipush C (v := 100) dX7_letterOf_9 (by decide) ?_
    obtain ⟨b25, h⟩ := h
    exact E _ _ _ _ _ _ (Nat.le_refl 0) (Nat.le_refl 0) dX7_letterOf_11 (wkNarC b25) ⟨(100 : Int32), rfl, h, hWS20, (wkExt.tr hE hXS20)⟩
def wvX7_judgePairing : List Cond := .code yX7_judgePairing cX7_judgePairing 6 (some .int) :: (([.methodLink RX7 110 yX9_at, .instanceMethod yX9_at, .selects RX9 yX9_at yX9_at, .initialized RX9, .fieldLink RX7 46 "Witnessworks$Entry" "boundNow" "I", .fieldLink RX7 9 "Witnessworks$Networks" "near" "[I", .static yX11_has, .initialized RX11, .fieldLink RX7 40 "Witnessworks$Entry" "size" "I", .fieldLink RX7 103 "Witnessworks$Row" "count" "I", .methodLink RX7 106 yX9_liesWithin, .instanceMethod yX9_liesWithin, .selects RX9 yX9_liesWithin yX9_liesWithin, .methodLink RX7 64 yX3_fillNear, .instanceMethod yX3_fillNear, .selects RX3 yX3_fillNear yX3_fillNear, .initialized RX3] : List Cond) ++ ((wsX30 ++ (wsX70 ++ (wsX90))) ++ (wvX9_at ++ (wvX11_has ++ (wvX9_liesWithin ++ (wvX3_fillNear))))))
theorem huX7_judgePairing_3 : ∀ w ∈ u_ws RX3 TX3 17, w ∈ wvX7_judgePairing := fun w h => List.mem_cons_of_mem _ (List.mem_append_right _ (List.mem_append_left _ (List.mem_append_left _ h)))
theorem huX7_judgePairing_7 : ∀ w ∈ u_ws RX7 TX7 11, w ∈ wvX7_judgePairing := fun w h => List.mem_cons_of_mem _ (List.mem_append_right _ (List.mem_append_left _ (List.mem_append_right _ (List.mem_append_left _ h))))
theorem huX7_judgePairing_9 : ∀ w ∈ u_ws RX9 TX9 2, w ∈ wvX7_judgePairing := fun w h => List.mem_cons_of_mem _ (List.mem_append_right _ (List.mem_append_left _ (List.mem_append_right _ (List.mem_append_right _ h))))
theorem hbX7_judgePairing_X9_at : ∀ w ∈ wvX9_at, w ∈ wvX7_judgePairing := fun w h => List.mem_cons_of_mem _ (List.mem_append_right _ (List.mem_append_right _ (List.mem_append_left _ h)))
theorem hbX7_judgePairing_X11_has : ∀ w ∈ wvX11_has, w ∈ wvX7_judgePairing := fun w h => List.mem_cons_of_mem _ (List.mem_append_right _ (List.mem_append_right _ (List.mem_append_right _ (List.mem_append_left _ h))))
theorem hbX7_judgePairing_X9_liesWithin : ∀ w ∈ wvX9_liesWithin, w ∈ wvX7_judgePairing := fun w h => List.mem_cons_of_mem _ (List.mem_append_right _ (List.mem_append_right _ (List.mem_append_right _ (List.mem_append_right _ (List.mem_append_left _ h)))))
theorem hbX7_judgePairing_X3_fillNear : ∀ w ∈ wvX3_fillNear, w ∈ wvX7_judgePairing := fun w h => List.mem_cons_of_mem _ (List.mem_append_right _ (List.mem_append_right _ (List.mem_append_right _ (List.mem_append_right _ (List.mem_append_right _ h)))))
theorem gdX7_judgePairing : ∀ w ∈ wvX7_judgePairing, wkGd w := wkGdC rfl (wkGdA (wkGdL (by decide +kernel)) (wkGdA (wkGdA gdX3 (wkGdA gdX7 gdX9)) (wkGdA gdX9_at (wkGdA gdX11_has (wkGdA gdX9_liesWithin gdX3_fillNear)))))
def rX7_judgePairing_b0 (F : Nat) (rec : Nat → Nat → Nat → Nat → Int32 → Int32 → Int32 → wPS → (Int32 → wPS → Prop) → Prop) (l0A : Nat) (l1A : Nat) (l2A : Nat) (l3I : Int32) (l4I : Int32) (l5I : Int32) (S : wPS) (Φ : (Int32 → wPS → Prop)) : Prop :=
  if l3I ≤ l5I then (rec 1 l0A l1A l2A l3I l4I (0 : Int32) S Φ) else (rX9_at F l2A l5I S fun v2 S3 => rX9_at F l2A v2 S3 fun v7 S8 => if v7 = l5I then (wkLt (l5I + (1 : Int32)) fun x13 => rec 0 l0A l1A l2A l3I l4I x13 S8 Φ) else (Φ (2 : Int32) S8))
def rX7_judgePairing_b1 (F : Nat) (rec : Nat → Nat → Nat → Nat → Int32 → Int32 → Int32 → wPS → (Int32 → wPS → Prop) → Prop) (l0A : Nat) (l1A : Nat) (l2A : Nat) (l3I : Int32) (l4I : Int32) (l5I : Int32) (S : wPS) (Φ : (Int32 → wPS → Prop)) : Prop :=
  if l3I ≤ l5I then (if l4I ≤ (gEntry_boundNow S l1A) then (Φ (0 : Int32) S) else (Φ (4 : Int32) S)) else (rX9_at F l2A l5I S fun v16 S17 => if v16 = l5I then (wkLt (l4I + (1 : Int32)) fun x35 => wkLt (l5I + (1 : Int32)) fun x36 => rec 1 l0A l1A l2A l3I x35 x36 S17 Φ) else (¬ (l5I < 0 ∨ S17.len (wkAd (gNetworks_near S17 l0A)) ≤ (l5I).toNatClampNeg) ∧ rX9_at F l2A l5I S17 fun v23 S24 => rX11_has F (S17.rI (wkAd (gNetworks_near S17 l0A)) (l5I).toNatClampNeg) v23 S24 fun v28 S29 => if v28 = 0 then (Φ (3 : Int32) S29) else (wkLt (l5I + (1 : Int32)) fun x34 => rec 1 l0A l1A l2A l3I l4I x34 S29 Φ)))
def rX7_judgePairing_go (F : Nat) : Nat → Nat → Nat → Nat → Nat → Int32 → Int32 → Int32 → wPS → (Int32 → wPS → Prop) → Prop
  | 0, _, _, _, _, _, _, _, _, _ => False
  | k' + 1, lab, l0A, l1A, l2A, l3I, l4I, l5I, S, Φ => if lab = 0 then rX7_judgePairing_b0 F (rX7_judgePairing_go F k') l0A l1A l2A l3I l4I l5I S Φ else if lab = 1 then rX7_judgePairing_b1 F (rX7_judgePairing_go F k') l0A l1A l2A l3I l4I l5I S Φ else False
def rX7_judgePairing_s (F : Nat) (rec : Nat → Nat → Nat → Nat → Int32 → Int32 → Int32 → wPS → (Int32 → wPS → Prop) → Prop) (l0A : Nat) (l1A : Nat) (l2A : Nat) (S : wPS) (Φ : (Int32 → wPS → Prop)) : Prop :=
  wkLt ((gEntry_size S l1A)) fun x37 => if (gRow_count S l2A) = x37 then (rX9_liesWithin F l2A (0 : Int32) (0 : Int32) (x37 - (1 : Int32)) S fun v39 S40 => if v39 = 0 then (Φ (1 : Int32) S40) else (rX3_fillNear F l1A (wkAd (gNetworks_near S40 l0A)) (-1 : Int32) S40 fun v45 S46 => rec 0 l0A l1A l2A x37 (0 : Int32) (0 : Int32) S46 Φ)) else (Φ (1 : Int32) S)
def rX7_judgePairing (F : Nat) (l0A : Nat) (l1A : Nat) (l2A : Nat) (S : wPS) (Φ : (Int32 → wPS → Prop)) : Prop := rX7_judgePairing_s F (rX7_judgePairing_go F F) l0A l1A l2A S Φ
set_option maxHeartbeats 4000000 in
set_option maxRecDepth 100000 in
theorem tX7_judgePairing_go {l : Launch} {X : wkX} {d F : Nat} {S0 : wPS} {Φ : (Int32 → wPS → Prop)} (C : wkC X cX7_judgePairing RX7 6 wvX7_judgePairing) (hR : wkRm X d 0 0) (hd : 2 ≤ d) (E : wkEnd l X cX7_judgePairing 6 (some .int) 0 0 (fun v' S'' => ∃ v : Int32, v' = some (.int v) ∧ Φ v S'' ∧ wkWF S'' ∧ wkExt S0 S'')) : ∀ k' : Nat, (∀ (l0A : Nat) (l1A : Nat) (l2A : Nat) (l3I : Int32) (l4I : Int32) (l5I : Int32) (S : wPS), wkWF S → wkExt S0 S → wkIs S l0A 7 → wkIs S l1A 3 → wkIs S l2A 9 → rX7_judgePairing_go F k' 0 l0A l1A l2A l3I l4I l5I S Φ → wkGo l X 6 0 0 42 S [some (.ref l0A), some (.ref l1A), some (.ref l2A), some (.int l3I), some (.int l4I), some (.int l5I)] []) ∧ (∀ (l0A : Nat) (l1A : Nat) (l2A : Nat) (l3I : Int32) (l4I : Int32) (l5I : Int32) (S : wPS), wkWF S → wkExt S0 S → wkIs S l0A 7 → wkIs S l1A 3 → wkIs S l2A 9 → rX7_judgePairing_go F k' 1 l0A l1A l2A l3I l4I l5I S Φ → wkGo l X 6 0 0 74 S [some (.ref l0A), some (.ref l1A), some (.ref l2A), some (.int l3I), some (.int l4I), some (.int l5I)] []) := by
  intro k'
  induction k' with
  | zero => exact ⟨fun l0A l1A l2A l3I l4I l5I S hW hE hl0A hl1A hl2A h => h.elim, fun l0A l1A l2A l3I l4I l5I S hW hE hl0A hl1A hl2A h => h.elim⟩
  | succ k' ih =>
    refine ⟨?_, ?_⟩
    · intro l0A l1A l2A l3I l4I l5I S hW hE hl0A hl1A hl2A h
      have h : rX7_judgePairing_b0 F (rX7_judgePairing_go F k') l0A l1A l2A l3I l4I l5I S Φ := by
        rw [rX7_judgePairing_go, if_pos (rfl : (0 : Nat) = 0)] at h
        exact h
      unfold rX7_judgePairing_b0 at h
      refine wk_iload C dX7_judgePairing_42 rfl ?_
      refine wk_iload_n C dX7_judgePairing_44 rfl rfl ?_
      refine wk_icmp_ge C (tgt := 71) dX7_judgePairing_45 (by decide) (fun c1 => ?_) (fun c1 => ?_)
      · rw [if_pos c1] at h
        refine wk_iconst C (v := 0) dX7_judgePairing_71 (by decide) ?_
        refine wk_istore C (lv' := [some (.ref l0A), some (.ref l1A), some (.ref l2A), some (.int l3I), some (.int l4I), some (.int (0 : Int32))]) dX7_judgePairing_72 (by decide) rfl ?_
        exact wk_forget (lv' := [some (.ref l0A), some (.ref l1A), some (.ref l2A), some (.int l3I), some (.int l4I), some (.int (0 : Int32))]) (wkLs.le ⟨rfl, rfl, rfl, rfl, rfl, rfl, trivial⟩) (ih.2 _ _ _ _ _ _ _ hW hE hl0A hl1A hl2A h)
      · rw [if_neg c1] at h
        refine wk_aload_n C dX7_judgePairing_48 rfl rfl ?_
        refine wk_aload_n C dX7_judgePairing_49 rfl rfl ?_
        refine wk_iload C dX7_judgePairing_50 rfl ?_
        refine wk_callV C hR (As := [.int l5I]) (cnt := 1) (tX9_at (l := l) hW hl2A h) rfl (wkGoodV (List.mem_of_getElem? (i := 1) rfl) (List.mem_of_getElem? (i := 2) rfl) (List.mem_of_getElem? (i := 3) rfl) (List.mem_of_getElem? (i := 4) rfl) hbX7_judgePairing_X9_at gdX9_at) (Nat.le_trans (by decide : 0 + 1 ≤ 2) hd) (by decide) hl2A.1 (fun cy => wAt_9 cy _ hl2A.2) rfl ⟨by decide, by decide, by decide +kernel⟩ rfl rfl (Nat.le_of_ble_eq_true rfl) (Nat.le_refl 0) (Nat.le_refl 0) dX7_judgePairing_52 (fun v' S3 hp => ?_)
        obtain ⟨v2, rfl, h, hWS3, hXS3⟩ := hp
        refine wk_callV C hR (As := [.int v2]) (cnt := 1) (tX9_at (l := l) hWS3 (hXS3 _ _ hl2A) h) rfl (wkGoodV (List.mem_of_getElem? (i := 1) rfl) (List.mem_of_getElem? (i := 2) rfl) (List.mem_of_getElem? (i := 3) rfl) (List.mem_of_getElem? (i := 4) rfl) hbX7_judgePairing_X9_at gdX9_at) (Nat.le_trans (by decide : 0 + 1 ≤ 2) hd) (by decide) (hXS3 _ _ hl2A).1 (fun cy => wAt_9 cy _ (hXS3 _ _ hl2A).2) rfl ⟨by decide, by decide, by decide +kernel⟩ rfl rfl (Nat.le_of_ble_eq_true rfl) (Nat.le_refl 0) (Nat.le_refl 0) dX7_judgePairing_55 (fun v' S8 hp => ?_)
        obtain ⟨v7, rfl, h, hWS8, hXS8⟩ := hp
        refine wk_iload C dX7_judgePairing_58 rfl ?_
        refine wk_icmp_eq C (tgt := 65) dX7_judgePairing_60 (by decide) (fun c12 => ?_) (fun c12 => ?_)
        · rw [if_pos c12] at h
          obtain ⟨x13, ex13, h⟩ := wkLt_some h
          refine wk_iinc C (lv' := [some (.ref l0A), some (.ref l1A), some (.ref l2A), some (.int l3I), some (.int l4I), some (.int x13)]) dX7_judgePairing_65 rfl (by rw [ex13]; rfl) (by decide) rfl ?_
          refine wk_goto C (tgt := 42) dX7_judgePairing_68 (by decide) ?_
          exact wk_forget (lv' := [some (.ref l0A), some (.ref l1A), some (.ref l2A), some (.int l3I), some (.int l4I), some (.int x13)]) (wkLs.le ⟨rfl, rfl, rfl, rfl, rfl, rfl, trivial⟩) (ih.1 _ _ _ _ _ _ _ hWS8 (wkExt.tr (wkExt.tr hE hXS3) hXS8) (hXS8 _ _ (hXS3 _ _ hl0A)) (hXS8 _ _ (hXS3 _ _ hl1A)) (hXS8 _ _ (hXS3 _ _ hl2A)) h)
        · rw [if_neg c12] at h
          refine wk_iconst C (v := 2) dX7_judgePairing_63 (by decide) ?_
          exact E _ _ _ _ _ _ (Nat.le_refl 0) (Nat.le_refl 0) dX7_judgePairing_64 ⟨(2 : Int32), rfl, h, hWS8, (wkExt.tr (wkExt.tr hE hXS3) hXS8)⟩
    · intro l0A l1A l2A l3I l4I l5I S hW hE hl0A hl1A hl2A h
      have h : rX7_judgePairing_b1 F (rX7_judgePairing_go F k') l0A l1A l2A l3I l4I l5I S Φ := by
        rw [rX7_judgePairing_go, if_neg (show ¬ (1 : Nat) = 0 by decide), if_pos (rfl : (1 : Nat) = 1)] at h
        exact h
      unfold rX7_judgePairing_b1 at h
      refine wk_iload C dX7_judgePairing_74 rfl ?_
      refine wk_iload_n C dX7_judgePairing_76 rfl rfl ?_
      refine wk_icmp_ge C (tgt := 124) dX7_judgePairing_77 (by decide) (fun c14 => ?_) (fun c14 => ?_)
      · rw [if_pos c14] at h
        refine wk_iload C dX7_judgePairing_124 rfl ?_
        refine wk_aload_n C dX7_judgePairing_126 rfl rfl ?_
        refine wk_get C (v := .int (gEntry_boundNow S l1A)) huX7_judgePairing_3 hl1A.1 (fun cy => wAt_3 cy _ hl1A.2) rfl 8 (by decide) (List.mem_of_getElem? (i := 5) rfl) rfl rfl dX7_judgePairing_127 ?_
        refine wk_icmp_le C (tgt := 137) dX7_judgePairing_130 (by decide) (fun c15 => ?_) (fun c15 => ?_)
        · rw [if_pos c15] at h
          refine wk_iconst C (v := 0) dX7_judgePairing_137 (by decide) ?_
          exact E _ _ _ _ _ _ (Nat.le_refl 0) (Nat.le_refl 0) dX7_judgePairing_138 ⟨(0 : Int32), rfl, h, hW, hE⟩
        · rw [if_neg c15] at h
          refine wk_iconst C (v := 4) dX7_judgePairing_133 (by decide) ?_
          refine wk_goto C (tgt := 138) dX7_judgePairing_134 (by decide) ?_
          exact E _ _ _ _ _ _ (Nat.le_refl 0) (Nat.le_refl 0) dX7_judgePairing_138 ⟨(4 : Int32), rfl, h, hW, hE⟩
      · rw [if_neg c14] at h
        refine wk_aload_n C dX7_judgePairing_80 rfl rfl ?_
        refine wk_iload C dX7_judgePairing_81 rfl ?_
        refine wk_callV C hR (As := [.int l5I]) (cnt := 1) (tX9_at (l := l) hW hl2A h) rfl (wkGoodV (List.mem_of_getElem? (i := 1) rfl) (List.mem_of_getElem? (i := 2) rfl) (List.mem_of_getElem? (i := 3) rfl) (List.mem_of_getElem? (i := 4) rfl) hbX7_judgePairing_X9_at gdX9_at) (Nat.le_trans (by decide : 0 + 1 ≤ 2) hd) (by decide) hl2A.1 (fun cy => wAt_9 cy _ hl2A.2) rfl ⟨by decide, by decide, by decide +kernel⟩ rfl rfl (Nat.le_of_ble_eq_true rfl) (Nat.le_refl 0) (Nat.le_refl 0) dX7_judgePairing_83 (fun v' S17 hp => ?_)
        obtain ⟨v16, rfl, h, hWS17, hXS17⟩ := hp
        refine wk_iload C dX7_judgePairing_86 rfl ?_
        refine wk_icmp_ne C (tgt := 97) dX7_judgePairing_88 (by decide) (fun c21 => ?_) (fun c21 => ?_)
        · rw [if_neg c21] at h
          refine wk_aload_n C dX7_judgePairing_97 rfl rfl ?_
          refine wk_get C huX7_judgePairing_7 (hXS17 _ _ hl0A).1 (fun cy => wAt_7 cy _ (hXS17 _ _ hl0A).2) rfl 0 (by decide) (List.mem_of_getElem? (i := 6) rfl) rfl (congrArg some (congrArg va_rf (wf_Networks_near hWS17 (hXS17 _ _ hl0A)).1)) dX7_judgePairing_98 ?_
          refine wk_iload C dX7_judgePairing_101 rfl ?_
          obtain ⟨i22, h⟩ := h
          refine wk_iald C (wf_Networks_near hWS17 (hXS17 _ _ hl0A)).2.1 (wf_Networks_near hWS17 (hXS17 _ _ hl0A)).2.2 i22 rfl dX7_judgePairing_103 ?_
          refine wk_aload_n C dX7_judgePairing_104 rfl rfl ?_
          refine wk_iload C dX7_judgePairing_105 rfl ?_
          refine wk_callV C hR (As := [.int l5I]) (cnt := 1) (tX9_at (l := l) hWS17 (hXS17 _ _ hl2A) h) rfl (wkGoodV (List.mem_of_getElem? (i := 1) rfl) (List.mem_of_getElem? (i := 2) rfl) (List.mem_of_getElem? (i := 3) rfl) (List.mem_of_getElem? (i := 4) rfl) hbX7_judgePairing_X9_at gdX9_at) (Nat.le_trans (by decide : 0 + 1 ≤ 2) hd) (by decide) (hXS17 _ _ hl2A).1 (fun cy => wAt_9 cy _ (hXS17 _ _ hl2A).2) rfl ⟨by decide, by decide, by decide +kernel⟩ rfl rfl (Nat.le_of_ble_eq_true rfl) (Nat.le_refl 0) (Nat.le_refl 0) dX7_judgePairing_107 (fun v' S24 hp => ?_)
          obtain ⟨v23, rfl, h, hWS24, hXS24⟩ := hp
          refine wk_callN C hR (y := yX11_has) (host := "Witnessworks") (As := [.int (S17.rI (wkAd (gNetworks_near S17 l0A)) (l5I).toNatClampNeg), .int v23]) (cnt := 2) (tX11_has (l := l) hWS24  h) rfl (fun w h => ⟨hbX7_judgePairing_X11_has w h, gdX11_has w h⟩) (by decide +kernel) (List.mem_of_getElem? (i := 7) rfl) (List.mem_of_getElem? (i := 8) rfl) (Nat.le_trans (by decide : 0 + 1 ≤ 2) hd) (by decide) ⟨by decide, by decide, by decide +kernel⟩ rfl rfl (Nat.le_of_ble_eq_true rfl) (Nat.le_refl 0) (Nat.le_refl 0) dX7_judgePairing_110 (fun v' S29 hp => ?_)
          obtain ⟨v28, rfl, h, hWS29, hXS29⟩ := hp
          refine wk_if_ne C (tgt := 118) dX7_judgePairing_113 (by decide) (fun c33 => ?_) (fun c33 => ?_)
          · rw [if_neg c33] at h
            obtain ⟨x34, ex34, h⟩ := wkLt_some h
            refine wk_iinc C (lv' := [some (.ref l0A), some (.ref l1A), some (.ref l2A), some (.int l3I), some (.int l4I), some (.int x34)]) dX7_judgePairing_118 rfl (by rw [ex34]; rfl) (by decide) rfl ?_
            refine wk_goto C (tgt := 74) dX7_judgePairing_121 (by decide) ?_
            exact wk_forget (lv' := [some (.ref l0A), some (.ref l1A), some (.ref l2A), some (.int l3I), some (.int l4I), some (.int x34)]) (wkLs.le ⟨rfl, rfl, rfl, rfl, rfl, rfl, trivial⟩) (ih.2 _ _ _ _ _ _ _ hWS29 (wkExt.tr (wkExt.tr (wkExt.tr hE hXS17) hXS24) hXS29) (hXS29 _ _ (hXS24 _ _ (hXS17 _ _ hl0A))) (hXS29 _ _ (hXS24 _ _ (hXS17 _ _ hl1A))) (hXS29 _ _ (hXS24 _ _ (hXS17 _ _ hl2A))) h)
          · rw [if_pos c33] at h
            refine wk_iconst C (v := 3) dX7_judgePairing_116 (by decide) ?_
            exact E _ _ _ _ _ _ (Nat.le_refl 0) (Nat.le_refl 0) dX7_judgePairing_117 ⟨(3 : Int32), rfl, h, hWS29, (wkExt.tr (wkExt.tr (wkExt.tr hE hXS17) hXS24) hXS29)⟩
        · rw [if_pos c21] at h
          obtain ⟨x35, ex35, h⟩ := wkLt_some h
          refine wk_iinc C (lv' := [some (.ref l0A), some (.ref l1A), some (.ref l2A), some (.int l3I), some (.int x35), some (.int l5I)]) dX7_judgePairing_91 rfl (by rw [ex35]; rfl) (by decide) rfl ?_
          refine wk_goto C (tgt := 118) dX7_judgePairing_94 (by decide) ?_
          obtain ⟨x36, ex36, h⟩ := wkLt_some h
          refine wk_iinc C (lv' := [some (.ref l0A), some (.ref l1A), some (.ref l2A), some (.int l3I), some (.int x35), some (.int x36)]) dX7_judgePairing_118 rfl (by rw [ex36]; rfl) (by decide) rfl ?_
          refine wk_goto C (tgt := 74) dX7_judgePairing_121 (by decide) ?_
          exact wk_forget (lv' := [some (.ref l0A), some (.ref l1A), some (.ref l2A), some (.int l3I), some (.int x35), some (.int x36)]) (wkLs.le ⟨rfl, rfl, rfl, rfl, rfl, rfl, trivial⟩) (ih.2 _ _ _ _ _ _ _ hWS17 (wkExt.tr hE hXS17) (hXS17 _ _ hl0A) (hXS17 _ _ hl1A) (hXS17 _ _ hl2A) h)
set_option maxHeartbeats 4000000 in
set_option maxRecDepth 100000 in
theorem tX7_judgePairing {l : Launch} {g : wkG} {F : Nat}  {S : wPS} {l0A : Nat} {l1A : Nat} {l2A : Nat} {Φ : (Int32 → wPS → Prop)} (hW : wkWF S) (hl0A : wkIs S l0A 7) (hl1A : wkIs S l1A 3) (hl2A : wkIs S l2A 9) (h : rX7_judgePairing F l0A l1A l2A S Φ) : wkMet l g yX7_judgePairing wvX7_judgePairing 2 0 0 [.ref l0A, .ref l1A, .ref l2A] S (fun v' S'' => ∃ v : Int32, v' = some (.int v) ∧ Φ v S'' ∧ wkWF S'' ∧ wkExt S S'') := by
  refine wkMet_of (ret := (some .int)) (by decide) rfl (Nat.le_of_ble_eq_true rfl) (fun X hg C hR E => ?_)
  subst hg
  have hE : wkExt S S := wkExt.rf
  have hd : 2 ≤ 2 := Nat.le_refl _
  show wkGo l X 6 0 0 0 S [some (.ref l0A), some (.ref l1A), some (.ref l2A), none, none, none] []
  have ih := tX7_judgePairing_go (F := F) C hR hd E F
  have h : rX7_judgePairing_s F (rX7_judgePairing_go F F) l0A l1A l2A S Φ := h
  unfold rX7_judgePairing_s at h
  refine wk_aload_n C dX7_judgePairing_0 rfl rfl ?_
  refine wk_get C (v := .int (gEntry_size S l1A)) huX7_judgePairing_3 hl1A.1 (fun cy => wAt_3 cy _ hl1A.2) rfl 1 (by decide) (List.mem_of_getElem? (i := 9) rfl) rfl rfl dX7_judgePairing_1 ?_
  obtain ⟨x37, ex37, h⟩ := wkLt_some h
  refine wk_topi ex37 ?_
  refine wk_istore_n C (lv' := [some (.ref l0A), some (.ref l1A), some (.ref l2A), some (.int x37), none, none]) dX7_judgePairing_4 rfl (by decide) rfl ?_
  refine wk_aload_n C dX7_judgePairing_5 rfl rfl ?_
  refine wk_get C (v := .int (gRow_count S l2A)) huX7_judgePairing_9 hl2A.1 (fun cy => wAt_9 cy _ hl2A.2) rfl 1 (by decide) (List.mem_of_getElem? (i := 10) rfl) rfl rfl dX7_judgePairing_6 ?_
  refine wk_iload_n C dX7_judgePairing_9 rfl rfl ?_
  refine wk_icmp_ne C (tgt := 25) dX7_judgePairing_10 (by decide) (fun c38 => ?_) (fun c38 => ?_)
  · rw [if_neg c38] at h
    refine wk_iconst C (v := 1) dX7_judgePairing_25 (by decide) ?_
    exact E _ _ _ _ _ _ (Nat.le_refl 0) (Nat.le_refl 0) dX7_judgePairing_26 ⟨(1 : Int32), rfl, h, hW, hE⟩
  · rw [if_pos c38] at h
    refine wk_aload_n C dX7_judgePairing_13 rfl rfl ?_
    refine wk_iconst C (v := 0) dX7_judgePairing_14 (by decide) ?_
    refine wk_iconst C (v := 0) dX7_judgePairing_15 (by decide) ?_
    refine wk_iload_n C dX7_judgePairing_16 rfl rfl ?_
    refine wk_iconst C (v := 1) dX7_judgePairing_17 (by decide) ?_
    refine wk_isub C dX7_judgePairing_18 rfl ?_
    refine wk_callV C hR (As := [.int (0 : Int32), .int (0 : Int32), .int (x37 - (1 : Int32))]) (cnt := 3) (tX9_liesWithin (l := l) hW hl2A h) rfl (wkGoodV (List.mem_of_getElem? (i := 11) rfl) (List.mem_of_getElem? (i := 12) rfl) (List.mem_of_getElem? (i := 13) rfl) (List.mem_of_getElem? (i := 4) rfl) hbX7_judgePairing_X9_liesWithin gdX9_liesWithin) (Nat.le_trans (by decide : 0 + 1 ≤ 2) hd) (by decide) hl2A.1 (fun cy => wAt_9 cy _ hl2A.2) rfl ⟨by decide, by decide, by decide +kernel⟩ rfl rfl (Nat.le_of_ble_eq_true rfl) (Nat.le_refl 0) (Nat.le_refl 0) dX7_judgePairing_19 (fun v' S40 hp => ?_)
    obtain ⟨v39, rfl, h, hWS40, hXS40⟩ := hp
    refine wk_if_ne C (tgt := 27) dX7_judgePairing_22 (by decide) (fun c44 => ?_) (fun c44 => ?_)
    · rw [if_neg c44] at h
      refine wk_aload_n C dX7_judgePairing_27 rfl rfl ?_
      refine wk_aload_n C dX7_judgePairing_28 rfl rfl ?_
      refine wk_get C huX7_judgePairing_7 (hXS40 _ _ hl0A).1 (fun cy => wAt_7 cy _ (hXS40 _ _ hl0A).2) rfl 0 (by decide) (List.mem_of_getElem? (i := 6) rfl) rfl (congrArg some (congrArg va_rf (wf_Networks_near hWS40 (hXS40 _ _ hl0A)).1)) dX7_judgePairing_29 ?_
      refine wk_iconst C (v := (-1)) dX7_judgePairing_32 (by decide) ?_
      refine wk_callV C hR (As := [.ref (wkAd (gNetworks_near S40 l0A)), .int (-1 : Int32)]) (cnt := 2) (tX3_fillNear (l := l) hWS40 (hXS40 _ _ hl1A) (wf_Networks_near hWS40 (hXS40 _ _ hl0A)).2 h) rfl (wkGoodV (List.mem_of_getElem? (i := 14) rfl) (List.mem_of_getElem? (i := 15) rfl) (List.mem_of_getElem? (i := 16) rfl) (List.mem_of_getElem? (i := 17) rfl) hbX7_judgePairing_X3_fillNear gdX3_fillNear) (Nat.le_trans (by decide : 1 + 1 ≤ 2) hd) (by decide) (hXS40 _ _ hl1A).1 (fun cy => wAt_3 cy _ (hXS40 _ _ hl1A).2) rfl ⟨by decide, by decide, by decide +kernel⟩ rfl rfl (Nat.le_of_ble_eq_true rfl) (Nat.le_refl 0) (Nat.le_refl 0) dX7_judgePairing_33 (fun v' S46 hp => ?_)
      obtain ⟨v45, rfl, h, hWS46, hXS46⟩ := hp
      refine wk_iconst C (v := 0) dX7_judgePairing_36 (by decide) ?_
      refine wk_istore C (lv' := [some (.ref l0A), some (.ref l1A), some (.ref l2A), some (.int x37), some (.int (0 : Int32)), none]) dX7_judgePairing_37 (by decide) rfl ?_
      refine wk_iconst C (v := 0) dX7_judgePairing_39 (by decide) ?_
      refine wk_istore C (lv' := [some (.ref l0A), some (.ref l1A), some (.ref l2A), some (.int x37), some (.int (0 : Int32)), some (.int (0 : Int32))]) dX7_judgePairing_40 (by decide) rfl ?_
      exact wk_forget (lv' := [some (.ref l0A), some (.ref l1A), some (.ref l2A), some (.int x37), some (.int (0 : Int32)), some (.int (0 : Int32))]) (wkLs.le ⟨rfl, rfl, rfl, rfl, rfl, rfl, trivial⟩) (ih.1 _ _ _ _ _ _ _ hWS46 (wkExt.tr (wkExt.tr hE hXS40) hXS46) (hXS46 _ _ (hXS40 _ _ hl0A)) (hXS46 _ _ (hXS40 _ _ hl1A)) (hXS46 _ _ (hXS40 _ _ hl2A)) h)
    · rw [if_pos c44] at h
      refine wk_iconst C (v := 1) dX7_judgePairing_25 (by decide) ?_
      exact E _ _ _ _ _ _ (Nat.le_refl 0) (Nat.le_refl 0) dX7_judgePairing_26 ⟨(1 : Int32), rfl, h, hWS40, (wkExt.tr hE hXS40)⟩
