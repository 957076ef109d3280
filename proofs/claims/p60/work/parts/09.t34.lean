def wvX6_greatestWeight : List Cond := .code yX6_greatestWeight cX6_greatestWeight 4 (some .int) :: (([.fieldLink RX6 43 "Witnessworks$Machines" "size" "I", .methodLink RX6 141 Lib.Math.min.name, .static Lib.Math.min.name, .initialized "java/lang/Math", .code Lib.Math.min.name Lib.Math.min.code 2 (some .int), .static yX11_has, .initialized RX11, .fieldLink RX6 27 "Witnessworks$Machines" "weights" "[I", .methodLink RX6 136 Lib.Math.max.name, .static Lib.Math.max.name, .code Lib.Math.max.name Lib.Math.max.code 2 (some .int)] : List Cond) ++ ((wsX60) ++ (wvX11_has)))
theorem huX6_greatestWeight_6 : ∀ w ∈ u_ws RX6 TX6 8, w ∈ wvX6_greatestWeight := fun w h => List.mem_cons_of_mem _ (List.mem_append_right _ (List.mem_append_left _ h))
theorem hbX6_greatestWeight_X11_has : ∀ w ∈ wvX11_has, w ∈ wvX6_greatestWeight := fun w h => List.mem_cons_of_mem _ (List.mem_append_right _ (List.mem_append_right _ h))
theorem gdX6_greatestWeight : ∀ w ∈ wvX6_greatestWeight, wkGd w := wkGdC rfl (wkGdA (wkGdL (by decide +kernel)) (wkGdA gdX6 gdX11_has))
def rX6_greatestWeight_b0 (F : Nat) (rec : Nat → Nat → Int32 → Int32 → Int32 → wPS → (Int32 → wPS → Prop) → Prop) (l0A : Nat) (l1I : Int32) (l2I : Int32) (l3I : Int32) (S : wPS) (Φ : (Int32 → wPS → Prop)) : Prop :=
  if (gMachines_size S l0A) ≤ l3I then (Φ (if (5 : Int32) < l2I then (5 : Int32) else l2I) S) else (rX11_has F l1I l3I S fun v2 S3 => if v2 = 0 then (wkLt (l3I + (1 : Int32)) fun x8 => rec 0 l0A l1I l2I x8 S3 Φ) else (¬ (l3I < 0 ∨ S3.len (wkAd (gMachines_weights S3 l0A)) ≤ (l3I).toNatClampNeg) ∧ wkLt ((if l2I < (S3.rI (wkAd (gMachines_weights S3 l0A)) (l3I).toNatClampNeg) then (S3.rI (wkAd (gMachines_weights S3 l0A)) (l3I).toNatClampNeg) else l2I)) fun x10 => wkLt (l3I + (1 : Int32)) fun x11 => rec 0 l0A l1I x10 x11 S3 Φ))
def rX6_greatestWeight_go (F : Nat) : Nat → Nat → Nat → Int32 → Int32 → Int32 → wPS → (Int32 → wPS → Prop) → Prop
  | 0, _, _, _, _, _, _, _ => False
  | k' + 1, lab, l0A, l1I, l2I, l3I, S, Φ => if lab = 0 then rX6_greatestWeight_b0 F (rX6_greatestWeight_go F k') l0A l1I l2I l3I S Φ else False
def rX6_greatestWeight_s (F : Nat) (rec : Nat → Nat → Int32 → Int32 → Int32 → wPS → (Int32 → wPS → Prop) → Prop) (l0A : Nat) (l1I : Int32) (S : wPS) (Φ : (Int32 → wPS → Prop)) : Prop :=
  rec 0 l0A l1I (0 : Int32) (0 : Int32) S Φ
def rX6_greatestWeight (F : Nat) (l0A : Nat) (l1I : Int32) (S : wPS) (Φ : (Int32 → wPS → Prop)) : Prop := rX6_greatestWeight_s F (rX6_greatestWeight_go F F) l0A l1I S Φ
set_option maxHeartbeats 4000000 in
set_option maxRecDepth 100000 in
theorem tX6_greatestWeight_go {l : Launch} {X : wkX} {d F : Nat} {S0 : wPS} {Φ : (Int32 → wPS → Prop)} (C : wkC X cX6_greatestWeight RX6 4 wvX6_greatestWeight) (hR : wkRm X d 0 0) (hd : 1 ≤ d) (E : wkEnd l X cX6_greatestWeight 4 (some .int) 0 0 (fun v' S'' => ∃ v : Int32, v' = some (.int v) ∧ Φ v S'' ∧ wkWF S'' ∧ wkExt S0 S'')) : ∀ k' : Nat, (∀ (l0A : Nat) (l1I : Int32) (l2I : Int32) (l3I : Int32) (S : wPS), wkWF S → wkExt S0 S → wkIs S l0A 6 → rX6_greatestWeight_go F k' 0 l0A l1I l2I l3I S Φ → wkGo l X 4 0 0 4 S [some (.ref l0A), some (.int l1I), some (.int l2I), some (.int l3I)] []) := by
  intro k'
  induction k' with
  | zero => exact fun l0A l1I l2I l3I S hW hE hl0A h => h.elim
  | succ k' ih =>
    · intro l0A l1I l2I l3I S hW hE hl0A h
      have h : rX6_greatestWeight_b0 F (rX6_greatestWeight_go F k') l0A l1I l2I l3I S Φ := by
        rw [rX6_greatestWeight_go, if_pos (rfl : (0 : Nat) = 0)] at h
        exact h
      unfold rX6_greatestWeight_b0 at h
      refine wk_iload_n C dX6_greatestWeight_4 rfl rfl ?_
      refine wk_aload_n C dX6_greatestWeight_5 rfl rfl ?_
      refine wk_get C (v := .int (gMachines_size S l0A)) huX6_greatestWeight_6 hl0A.1 (fun cy => wAt_6 cy _ hl0A.2) rfl 7 (by decide) (List.mem_of_getElem? (i := 1) rfl) rfl rfl dX6_greatestWeight_6 ?_
      refine wk_icmp_ge C (tgt := 37) dX6_greatestWeight_9 (by decide) (fun c1 => ?_) (fun c1 => ?_)
      · rw [if_pos c1] at h
        refine wk_iload_n C dX6_greatestWeight_37 rfl rfl ?_
        refine wk_iconst C (v := 5) dX6_greatestWeight_38 (by decide) ?_
        refine wk_mmin C hR (List.mem_of_getElem? (i := 2) rfl) (List.mem_of_getElem? (i := 3) rfl) (List.mem_of_getElem? (i := 4) rfl) (List.mem_of_getElem? (i := 5) rfl) (Nat.le_trans (by decide) hd) (Nat.le_refl 0) (Nat.le_refl 0) (Nat.le_of_ble_eq_true rfl) rfl dX6_greatestWeight_39 ?_
        exact E _ _ _ _ _ _ (Nat.le_refl 0) (Nat.le_refl 0) dX6_greatestWeight_42 ⟨(if (5 : Int32) < l2I then (5 : Int32) else l2I), rfl, h, hW, hE⟩
      · rw [if_neg c1] at h
        refine wk_iload_n C dX6_greatestWeight_12 rfl rfl ?_
        refine wk_iload_n C dX6_greatestWeight_13 rfl rfl ?_
        refine wk_callN C hR (y := yX11_has) (host := "Witnessworks") (As := [.int l1I, .int l3I]) (cnt := 2) (tX11_has (l := l) hW  h) rfl (fun w h => ⟨hbX6_greatestWeight_X11_has w h, gdX11_has w h⟩) (by decide +kernel) (List.mem_of_getElem? (i := 6) rfl) (List.mem_of_getElem? (i := 7) rfl) (Nat.le_trans (by decide : 0 + 1 ≤ 1) hd) (by decide) ⟨by decide, by decide, by decide +kernel⟩ rfl rfl (Nat.le_of_ble_eq_true rfl) (Nat.le_refl 0) (Nat.le_refl 0) dX6_greatestWeight_14 (fun v' S3 hp => ?_)
        obtain ⟨v2, rfl, h, hWS3, hXS3⟩ := hp
        refine wk_if_eq C (tgt := 31) dX6_greatestWeight_17 (by decide) (fun c7 => ?_) (fun c7 => ?_)
        · rw [if_pos c7] at h
          obtain ⟨x8, ex8, h⟩ := wkLt_some h
          refine wk_iinc C (lv' := [some (.ref l0A), some (.int l1I), some (.int l2I), some (.int x8)]) dX6_greatestWeight_31 rfl (by rw [ex8]; rfl) (by decide) rfl ?_
          refine wk_goto C (tgt := 4) dX6_greatestWeight_34 (by decide) ?_
          exact wk_forget (lv' := [some (.ref l0A), some (.int l1I), some (.int l2I), some (.int x8)]) (wkLs.le ⟨rfl, rfl, rfl, rfl, trivial⟩) (ih _ _ _ _ _ hWS3 (wkExt.tr hE hXS3) (hXS3 _ _ hl0A) h)
        · rw [if_neg c7] at h
          refine wk_iload_n C dX6_greatestWeight_20 rfl rfl ?_
          refine wk_aload_n C dX6_greatestWeight_21 rfl rfl ?_
          refine wk_get C huX6_greatestWeight_6 (hXS3 _ _ hl0A).1 (fun cy => wAt_6 cy _ (hXS3 _ _ hl0A).2) rfl 5 (by decide) (List.mem_of_getElem? (i := 8) rfl) rfl (congrArg some (congrArg va_rf (wf_Machines_weights hWS3 (hXS3 _ _ hl0A)).1)) dX6_greatestWeight_22 ?_
          refine wk_iload_n C dX6_greatestWeight_25 rfl rfl ?_
          obtain ⟨i9, h⟩ := h
          refine wk_iald C (wf_Machines_weights hWS3 (hXS3 _ _ hl0A)).2.1 (wf_Machines_weights hWS3 (hXS3 _ _ hl0A)).2.2 i9 rfl dX6_greatestWeight_26 ?_
          refine wk_mmax C hR (List.mem_of_getElem? (i := 9) rfl) (List.mem_of_getElem? (i := 10) rfl) (List.mem_of_getElem? (i := 4) rfl) (List.mem_of_getElem? (i := 11) rfl) (Nat.le_trans (by decide) hd) (Nat.le_refl 0) (Nat.le_refl 0) (Nat.le_of_ble_eq_true rfl) rfl dX6_greatestWeight_27 ?_
          obtain ⟨x10, ex10, h⟩ := wkLt_some h
          refine wk_topi ex10 ?_
          refine wk_istore_n C (lv' := [some (.ref l0A), some (.int l1I), some (.int x10), some (.int l3I)]) dX6_greatestWeight_30 rfl (by decide) rfl ?_
          obtain ⟨x11, ex11, h⟩ := wkLt_some h
          refine wk_iinc C (lv' := [some (.ref l0A), some (.int l1I), some (.int x10), some (.int x11)]) dX6_greatestWeight_31 rfl (by rw [ex11]; rfl) (by decide) rfl ?_
          refine wk_goto C (tgt := 4) dX6_greatestWeight_34 (by decide) ?_
          exact wk_forget (lv' := [some (.ref l0A), some (.int l1I), some (.int x10), some (.int x11)]) (wkLs.le ⟨rfl, rfl, rfl, rfl, trivial⟩) (ih _ _ _ _ _ hWS3 (wkExt.tr hE hXS3) (hXS3 _ _ hl0A) h)
set_option maxHeartbeats 4000000 in
set_option maxRecDepth 100000 in
theorem tX6_greatestWeight {l : Launch} {g : wkG} {F : Nat}  {S : wPS} {l0A : Nat} {l1I : Int32} {Φ : (Int32 → wPS → Prop)} (hW : wkWF S) (hl0A : wkIs S l0A 6) (h : rX6_greatestWeight F l0A l1I S Φ) : wkMet l g yX6_greatestWeight wvX6_greatestWeight 1 0 0 [.ref l0A, .int l1I] S (fun v' S'' => ∃ v : Int32, v' = some (.int v) ∧ Φ v S'' ∧ wkWF S'' ∧ wkExt S S'') := by
  refine wkMet_of (ret := (some .int)) (by decide) rfl (Nat.le_of_ble_eq_true rfl) (fun X hg C hR E => ?_)
  subst hg
  have hE : wkExt S S := wkExt.rf
  have hd : 1 ≤ 1 := Nat.le_refl _
  show wkGo l X 4 0 0 0 S [some (.ref l0A), some (.int l1I), none, none] []
  have ih := tX6_greatestWeight_go (F := F) C hR hd E F
  have h : rX6_greatestWeight_s F (rX6_greatestWeight_go F F) l0A l1I S Φ := h
  unfold rX6_greatestWeight_s at h
  refine wk_iconst C (v := 0) dX6_greatestWeight_0 (by decide) ?_
  refine wk_istore_n C (lv' := [some (.ref l0A), some (.int l1I), some (.int (0 : Int32)), none]) dX6_greatestWeight_1 rfl (by decide) rfl ?_
  refine wk_iconst C (v := 0) dX6_greatestWeight_2 (by decide) ?_
  refine wk_istore_n C (lv' := [some (.ref l0A), some (.int l1I), some (.int (0 : Int32)), some (.int (0 : Int32))]) dX6_greatestWeight_3 rfl (by decide) rfl ?_
  exact wk_forget (lv' := [some (.ref l0A), some (.int l1I), some (.int (0 : Int32)), some (.int (0 : Int32))]) (wkLs.le ⟨rfl, rfl, rfl, rfl, trivial⟩) (ih _ _ _ _ _ hW hE hl0A h)
def wvX6_withWeight : List Cond := .code yX6_withWeight cX6_withWeight 5 (some .int) :: (([.fieldLink RX6 43 "Witnessworks$Machines" "size" "I", .static yX11_has, .initialized RX11, .fieldLink RX6 27 "Witnessworks$Machines" "weights" "[I"] : List Cond) ++ ((wsX60) ++ (wvX11_has)))
theorem huX6_withWeight_6 : ∀ w ∈ u_ws RX6 TX6 8, w ∈ wvX6_withWeight := fun w h => List.mem_cons_of_mem _ (List.mem_append_right _ (List.mem_append_left _ h))
theorem hbX6_withWeight_X11_has : ∀ w ∈ wvX11_has, w ∈ wvX6_withWeight := fun w h => List.mem_cons_of_mem _ (List.mem_append_right _ (List.mem_append_right _ h))
theorem gdX6_withWeight : ∀ w ∈ wvX6_withWeight, wkGd w := wkGdC rfl (wkGdA (wkGdL (by decide +kernel)) (wkGdA gdX6 gdX11_has))
def rX6_withWeight_b0 (F : Nat) (rec : Nat → Nat → Int32 → Int32 → Int32 → Int32 → wPS → (Int32 → wPS → Prop) → Prop) (l0A : Nat) (l1I : Int32) (l2I : Int32) (l3I : Int32) (l4I : Int32) (S : wPS) (Φ : (Int32 → wPS → Prop)) : Prop :=
  if (gMachines_size S l0A) ≤ l4I then (Φ l3I S) else (rX11_has F l1I l4I S fun v2 S3 => if v2 = 0 then (wkLt (l4I + (1 : Int32)) fun x8 => rec 0 l0A l1I l2I l3I x8 S3 Φ) else (¬ (l4I < 0 ∨ S3.len (wkAd (gMachines_weights S3 l0A)) ≤ (l4I).toNatClampNeg) ∧ if (S3.rI (wkAd (gMachines_weights S3 l0A)) (l4I).toNatClampNeg) = l2I then (wkLt ((l3I ||| ((1 : Int32) <<< (l4I &&& 31)))) fun x12 => wkLt (l4I + (1 : Int32)) fun x13 => rec 0 l0A l1I l2I x12 x13 S3 Φ) else (wkLt (l4I + (1 : Int32)) fun x11 => rec 0 l0A l1I l2I l3I x11 S3 Φ)))
def rX6_withWeight_go (F : Nat) : Nat → Nat → Nat → Int32 → Int32 → Int32 → Int32 → wPS → (Int32 → wPS → Prop) → Prop
  | 0, _, _, _, _, _, _, _, _ => False
  | k' + 1, lab, l0A, l1I, l2I, l3I, l4I, S, Φ => if lab = 0 then rX6_withWeight_b0 F (rX6_withWeight_go F k') l0A l1I l2I l3I l4I S Φ else False
def rX6_withWeight_s (F : Nat) (rec : Nat → Nat → Int32 → Int32 → Int32 → Int32 → wPS → (Int32 → wPS → Prop) → Prop) (l0A : Nat) (l1I : Int32) (l2I : Int32) (S : wPS) (Φ : (Int32 → wPS → Prop)) : Prop :=
  rec 0 l0A l1I l2I (0 : Int32) (0 : Int32) S Φ
def rX6_withWeight (F : Nat) (l0A : Nat) (l1I : Int32) (l2I : Int32) (S : wPS) (Φ : (Int32 → wPS → Prop)) : Prop := rX6_withWeight_s F (rX6_withWeight_go F F) l0A l1I l2I S Φ
set_option maxHeartbeats 4000000 in
set_option maxRecDepth 100000 in
theorem tX6_withWeight_go {l : Launch} {X : wkX} {d F : Nat} {S0 : wPS} {Φ : (Int32 → wPS → Prop)} (C : wkC X cX6_withWeight RX6 5 wvX6_withWeight) (hR : wkRm X d 0 0) (hd : 1 ≤ d) (E : wkEnd l X cX6_withWeight 5 (some .int) 0 0 (fun v' S'' => ∃ v : Int32, v' = some (.int v) ∧ Φ v S'' ∧ wkWF S'' ∧ wkExt S0 S'')) : ∀ k' : Nat, (∀ (l0A : Nat) (l1I : Int32) (l2I : Int32) (l3I : Int32) (l4I : Int32) (S : wPS), wkWF S → wkExt S0 S → wkIs S l0A 6 → rX6_withWeight_go F k' 0 l0A l1I l2I l3I l4I S Φ → wkGo l X 5 0 0 5 S [some (.ref l0A), some (.int l1I), some (.int l2I), some (.int l3I), some (.int l4I)] []) := by
  intro k'
  induction k' with
  | zero => exact fun l0A l1I l2I l3I l4I S hW hE hl0A h => h.elim
  | succ k' ih =>
    · intro l0A l1I l2I l3I l4I S hW hE hl0A h
      have h : rX6_withWeight_b0 F (rX6_withWeight_go F k') l0A l1I l2I l3I l4I S Φ := by
        rw [rX6_withWeight_go, if_pos (rfl : (0 : Nat) = 0)] at h
        exact h
      unfold rX6_withWeight_b0 at h
      refine wk_iload C dX6_withWeight_5 rfl ?_
      refine wk_aload_n C dX6_withWeight_7 rfl rfl ?_
      refine wk_get C (v := .int (gMachines_size S l0A)) huX6_withWeight_6 hl0A.1 (fun cy => wAt_6 cy _ hl0A.2) rfl 7 (by decide) (List.mem_of_getElem? (i := 1) rfl) rfl rfl dX6_withWeight_8 ?_
      refine wk_icmp_ge C (tgt := 47) dX6_withWeight_11 (by decide) (fun c1 => ?_) (fun c1 => ?_)
      · rw [if_pos c1] at h
        refine wk_iload_n C dX6_withWeight_47 rfl rfl ?_
        exact E _ _ _ _ _ _ (Nat.le_refl 0) (Nat.le_refl 0) dX6_withWeight_48 ⟨l3I, rfl, h, hW, hE⟩
      · rw [if_neg c1] at h
        refine wk_iload_n C dX6_withWeight_14 rfl rfl ?_
        refine wk_iload C dX6_withWeight_15 rfl ?_
        refine wk_callN C hR (y := yX11_has) (host := "Witnessworks") (As := [.int l1I, .int l4I]) (cnt := 2) (tX11_has (l := l) hW  h) rfl (fun w h => ⟨hbX6_withWeight_X11_has w h, gdX11_has w h⟩) (by decide +kernel) (List.mem_of_getElem? (i := 2) rfl) (List.mem_of_getElem? (i := 3) rfl) (Nat.le_trans (by decide : 0 + 1 ≤ 1) hd) (by decide) ⟨by decide, by decide, by decide +kernel⟩ rfl rfl (Nat.le_of_ble_eq_true rfl) (Nat.le_refl 0) (Nat.le_refl 0) dX6_withWeight_17 (fun v' S3 hp => ?_)
        obtain ⟨v2, rfl, h, hWS3, hXS3⟩ := hp
        refine wk_if_eq C (tgt := 41) dX6_withWeight_20 (by decide) (fun c7 => ?_) (fun c7 => ?_)
        · rw [if_pos c7] at h
          obtain ⟨x8, ex8, h⟩ := wkLt_some h
          refine wk_iinc C (lv' := [some (.ref l0A), some (.int l1I), some (.int l2I), some (.int l3I), some (.int x8)]) dX6_withWeight_41 rfl (by rw [ex8]; rfl) (by decide) rfl ?_
          refine wk_goto C (tgt := 5) dX6_withWeight_44 (by decide) ?_
          exact wk_forget (lv' := [some (.ref l0A), some (.int l1I), some (.int l2I), some (.int l3I), some (.int x8)]) (wkLs.le ⟨rfl, rfl, rfl, rfl, rfl, trivial⟩) (ih _ _ _ _ _ _ hWS3 (wkExt.tr hE hXS3) (hXS3 _ _ hl0A) h)
        · rw [if_neg c7] at h
          refine wk_aload_n C dX6_withWeight_23 rfl rfl ?_
          refine wk_get C huX6_withWeight_6 (hXS3 _ _ hl0A).1 (fun cy => wAt_6 cy _ (hXS3 _ _ hl0A).2) rfl 5 (by decide) (List.mem_of_getElem? (i := 4) rfl) rfl (congrArg some (congrArg va_rf (wf_Machines_weights hWS3 (hXS3 _ _ hl0A)).1)) dX6_withWeight_24 ?_
          refine wk_iload C dX6_withWeight_27 rfl ?_
          obtain ⟨i9, h⟩ := h
          refine wk_iald C (wf_Machines_weights hWS3 (hXS3 _ _ hl0A)).2.1 (wf_Machines_weights hWS3 (hXS3 _ _ hl0A)).2.2 i9 rfl dX6_withWeight_29 ?_
          refine wk_iload_n C dX6_withWeight_30 rfl rfl ?_
          refine wk_icmp_ne C (tgt := 41) dX6_withWeight_31 (by decide) (fun c10 => ?_) (fun c10 => ?_)
          · rw [if_neg c10] at h
            obtain ⟨x11, ex11, h⟩ := wkLt_some h
            refine wk_iinc C (lv' := [some (.ref l0A), some (.int l1I), some (.int l2I), some (.int l3I), some (.int x11)]) dX6_withWeight_41 rfl (by rw [ex11]; rfl) (by decide) rfl ?_
            refine wk_goto C (tgt := 5) dX6_withWeight_44 (by decide) ?_
            exact wk_forget (lv' := [some (.ref l0A), some (.int l1I), some (.int l2I), some (.int l3I), some (.int x11)]) (wkLs.le ⟨rfl, rfl, rfl, rfl, rfl, trivial⟩) (ih _ _ _ _ _ _ hWS3 (wkExt.tr hE hXS3) (hXS3 _ _ hl0A) h)
          · rw [if_pos c10] at h
            refine wk_iload_n C dX6_withWeight_34 rfl rfl ?_
            refine wk_iconst C (v := 1) dX6_withWeight_35 (by decide) ?_
            refine wk_iload C dX6_withWeight_36 rfl ?_
            refine wk_ishl C dX6_withWeight_38 rfl ?_
            refine wk_ior C dX6_withWeight_39 rfl ?_
            obtain ⟨x12, ex12, h⟩ := wkLt_some h
            refine wk_topi ex12 ?_
            refine wk_istore_n C (lv' := [some (.ref l0A), some (.int l1I), some (.int l2I), some (.int x12), some (.int l4I)]) dX6_withWeight_40 rfl (by decide) rfl ?_
            obtain ⟨x13, ex13, h⟩ := wkLt_some h
            refine wk_iinc C (lv' := [some (.ref l0A), some (.int l1I), some (.int l2I), some (.int x12), some (.int x13)]) dX6_withWeight_41 rfl (by rw [ex13]; rfl) (by decide) rfl ?_
            refine wk_goto C (tgt := 5) dX6_withWeight_44 (by decide) ?_
            exact wk_forget (lv' := [some (.ref l0A), some (.int l1I), some (.int l2I), some (.int x12), some (.int x13)]) (wkLs.le ⟨rfl, rfl, rfl, rfl, rfl, trivial⟩) (ih _ _ _ _ _ _ hWS3 (wkExt.tr hE hXS3) (hXS3 _ _ hl0A) h)
set_option maxHeartbeats 4000000 in
set_option maxRecDepth 100000 in
theorem tX6_withWeight {l : Launch} {g : wkG} {F : Nat}  {S : wPS} {l0A : Nat} {l1I : Int32} {l2I : Int32} {Φ : (Int32 → wPS → Prop)} (hW : wkWF S) (hl0A : wkIs S l0A 6) (h : rX6_withWeight F l0A l1I l2I S Φ) : wkMet l g yX6_withWeight wvX6_withWeight 1 0 0 [.ref l0A, .int l1I, .int l2I] S (fun v' S'' => ∃ v : Int32, v' = some (.int v) ∧ Φ v S'' ∧ wkWF S'' ∧ wkExt S S'') := by
  refine wkMet_of (ret := (some .int)) (by decide) rfl (Nat.le_of_ble_eq_true rfl) (fun X hg C hR E => ?_)
  subst hg
  have hE : wkExt S S := wkExt.rf
  have hd : 1 ≤ 1 := Nat.le_refl _
  show wkGo l X 5 0 0 0 S [some (.ref l0A), some (.int l1I), some (.int l2I), none, none] []
  have ih := tX6_withWeight_go (F := F) C hR hd E F
  have h : rX6_withWeight_s F (rX6_withWeight_go F F) l0A l1I l2I S Φ := h
  unfold rX6_withWeight_s at h
  refine wk_iconst C (v := 0) dX6_withWeight_0 (by decide) ?_
  refine wk_istore_n C (lv' := [some (.ref l0A), some (.int l1I), some (.int l2I), some (.int (0 : Int32)), none]) dX6_withWeight_1 rfl (by decide) rfl ?_
  refine wk_iconst C (v := 0) dX6_withWeight_2 (by decide) ?_
  refine wk_istore C (lv' := [some (.ref l0A), some (.int l1I), some (.int l2I), some (.int (0 : Int32)), some (.int (0 : Int32))]) dX6_withWeight_3 (by decide) rfl ?_
  exact wk_forget (lv' := [some (.ref l0A), some (.int l1I), some (.int l2I), some (.int (0 : Int32)), some (.int (0 : Int32))]) (wkLs.le ⟨rfl, rfl, rfl, rfl, rfl, trivial⟩) (ih _ _ _ _ _ _ hW hE hl0A h)
def wvX6_drawnTo : List Cond := .code yX6_drawnTo cX6_drawnTo 9 (some .int) :: (([.fieldLink RX6 43 "Witnessworks$Machines" "size" "I", .fieldLink RX6 30 "Witnessworks$Machines" "ways" "[I", .fieldLink RX6 24 "Witnessworks$Machines" "owners" "[I", .static yX11_has, .initialized RX11] : List Cond) ++ ((wsX60) ++ (wvX11_has)))
theorem huX6_drawnTo_6 : ∀ w ∈ u_ws RX6 TX6 8, w ∈ wvX6_drawnTo := fun w h => List.mem_cons_of_mem _ (List.mem_append_right _ (List.mem_append_left _ h))
theorem hbX6_drawnTo_X11_has : ∀ w ∈ wvX11_has, w ∈ wvX6_drawnTo := fun w h => List.mem_cons_of_mem _ (List.mem_append_right _ (List.mem_append_right _ h))
theorem gdX6_drawnTo : ∀ w ∈ wvX6_drawnTo, wkGd w := wkGdC rfl (wkGdA (wkGdL (by decide +kernel)) (wkGdA gdX6 gdX11_has))
def rX6_drawnTo_b0 (F : Nat) (rec : Nat → Nat → Int32 → Int32 → Int32 → Int32 → Int32 → wPS → (Int32 → wPS → Prop) → Prop) (l0A : Nat) (l2I : Int32) (l3I : Int32) (l4I : Int32) (l5I : Int32) (S : wPS) (Φ : (Int32 → wPS → Prop)) : Prop :=
  if (gMachines_size S l0A) ≤ l5I then (Φ l4I S) else (rec 1 l0A l2I l3I l4I l5I (0 : Int32) S Φ)
def rX6_drawnTo_b1 (F : Nat) (rec : Nat → Nat → Int32 → Int32 → Int32 → Int32 → Int32 → wPS → (Int32 → wPS → Prop) → Prop) (l0A : Nat) (l2I : Int32) (l3I : Int32) (l4I : Int32) (l5I : Int32) (l6I : Int32) (S : wPS) (Φ : (Int32 → wPS → Prop)) : Prop :=
  if (gMachines_size S l0A) ≤ l6I then (wkLt (l5I + (1 : Int32)) fun x3 => rec 0 l0A l2I l3I l4I x3 0 S Φ) else (¬ (l6I < 0 ∨ S.len (wkAd (gMachines_ways S l0A)) ≤ (l6I).toNatClampNeg) ∧ wkLt (((S.rI (wkAd (gMachines_ways S l0A)) (l6I).toNatClampNeg) &&& l3I)) fun x5 => ¬ (l6I < 0 ∨ S.len (wkAd (gMachines_owners S l0A)) ≤ (l6I).toNatClampNeg) ∧ if (S.rI (wkAd (gMachines_owners S l0A)) (l6I).toNatClampNeg) = l2I then (if (x5 &&& l4I) = 0 then (rX11_has F l3I l6I S fun v27 S28 => if v27 = 0 then (wkLt (l6I + (1 : Int32)) fun x33 => rec 1 l0A l2I l3I l4I l5I x33 S28 Φ) else (wkLt (l6I + (1 : Int32)) fun x34 => rec 1 l0A l2I l3I l4I l5I x34 S28 Φ)) else (rX11_has F l3I l6I S fun v35 S36 => if v35 = 0 then (wkLt (l6I + (1 : Int32)) fun x41 => rec 1 l0A l2I l3I l4I l5I x41 S36 Φ) else (wkLt ((l4I ||| ((1 : Int32) <<< (l6I &&& 31)))) fun x42 => wkLt (l6I + (1 : Int32)) fun x43 => rec 1 l0A l2I l3I x42 l5I x43 S36 Φ))) else (if (x5 &&& (l4I ^^^ (-1 : Int32))) = 0 then (rX11_has F l3I l6I S fun v17 S18 => if v17 = 0 then (wkLt (l6I + (1 : Int32)) fun x23 => rec 1 l0A l2I l3I l4I l5I x23 S18 Φ) else (wkLt ((l4I ||| ((1 : Int32) <<< (l6I &&& 31)))) fun x24 => wkLt (l6I + (1 : Int32)) fun x25 => rec 1 l0A l2I l3I x24 l5I x25 S18 Φ)) else (rX11_has F l3I l6I S fun v9 S10 => if v9 = 0 then (wkLt (l6I + (1 : Int32)) fun x15 => rec 1 l0A l2I l3I l4I l5I x15 S10 Φ) else (wkLt (l6I + (1 : Int32)) fun x16 => rec 1 l0A l2I l3I l4I l5I x16 S10 Φ))))
def rX6_drawnTo_go (F : Nat) : Nat → Nat → Nat → Int32 → Int32 → Int32 → Int32 → Int32 → wPS → (Int32 → wPS → Prop) → Prop
  | 0, _, _, _, _, _, _, _, _, _ => False
  | k' + 1, lab, l0A, l2I, l3I, l4I, l5I, l6I, S, Φ => if lab = 0 then rX6_drawnTo_b0 F (rX6_drawnTo_go F k') l0A l2I l3I l4I l5I S Φ else if lab = 1 then rX6_drawnTo_b1 F (rX6_drawnTo_go F k') l0A l2I l3I l4I l5I l6I S Φ else False
def rX6_drawnTo_s (F : Nat) (rec : Nat → Nat → Int32 → Int32 → Int32 → Int32 → Int32 → wPS → (Int32 → wPS → Prop) → Prop) (l0A : Nat) (l1I : Int32) (l2I : Int32) (l3I : Int32) (S : wPS) (Φ : (Int32 → wPS → Prop)) : Prop :=
  rec 0 l0A l2I l3I l1I (0 : Int32) 0 S Φ
def rX6_drawnTo (F : Nat) (l0A : Nat) (l1I : Int32) (l2I : Int32) (l3I : Int32) (S : wPS) (Φ : (Int32 → wPS → Prop)) : Prop := rX6_drawnTo_s F (rX6_drawnTo_go F F) l0A l1I l2I l3I S Φ
set_option maxHeartbeats 4000000 in
set_option maxRecDepth 100000 in
theorem tX6_drawnTo_go {l : Launch} {X : wkX} {d F : Nat} {S0 : wPS} {Φ : (Int32 → wPS → Prop)} (C : wkC X cX6_drawnTo RX6 9 wvX6_drawnTo) (hR : wkRm X d 0 0) (hd : 1 ≤ d) (E : wkEnd l X cX6_drawnTo 9 (some .int) 0 0 (fun v' S'' => ∃ v : Int32, v' = some (.int v) ∧ Φ v S'' ∧ wkWF S'' ∧ wkExt S0 S'')) : ∀ k' : Nat, (∀ (l0A : Nat) (l2I : Int32) (l3I : Int32) (l4I : Int32) (l5I : Int32) (S : wPS), wkWF S → wkExt S0 S → wkIs S l0A 6 → rX6_drawnTo_go F k' 0 l0A l2I l3I l4I l5I 0 S Φ → wkGo l X 9 0 0 6 S [some (.ref l0A), none, some (.int l2I), some (.int l3I), some (.int l4I), some (.int l5I), none, none, none] []) ∧ (∀ (l0A : Nat) (l2I : Int32) (l3I : Int32) (l4I : Int32) (l5I : Int32) (l6I : Int32) (S : wPS), wkWF S → wkExt S0 S → wkIs S l0A 6 → rX6_drawnTo_go F k' 1 l0A l2I l3I l4I l5I l6I S Φ → wkGo l X 9 0 0 18 S [some (.ref l0A), none, some (.int l2I), some (.int l3I), some (.int l4I), some (.int l5I), some (.int l6I), none, none] []) := by
  intro k'
  induction k' with
  | zero => exact ⟨fun l0A l2I l3I l4I l5I S hW hE hl0A h => h.elim, fun l0A l2I l3I l4I l5I l6I S hW hE hl0A h => h.elim⟩
  | succ k' ih =>
    refine ⟨?_, ?_⟩
    · intro l0A l2I l3I l4I l5I S hW hE hl0A h
      have h : rX6_drawnTo_b0 F (rX6_drawnTo_go F k') l0A l2I l3I l4I l5I S Φ := by
        rw [rX6_drawnTo_go, if_pos (rfl : (0 : Nat) = 0)] at h
        exact h
      unfold rX6_drawnTo_b0 at h
      refine wk_iload C dX6_drawnTo_6 rfl ?_
      refine wk_aload_n C dX6_drawnTo_8 rfl rfl ?_
      refine wk_get C (v := .int (gMachines_size S l0A)) huX6_drawnTo_6 hl0A.1 (fun cy => wAt_6 cy _ hl0A.2) rfl 7 (by decide) (List.mem_of_getElem? (i := 1) rfl) rfl rfl dX6_drawnTo_9 ?_
      refine wk_icmp_ge C (tgt := 117) dX6_drawnTo_12 (by decide) (fun c1 => ?_) (fun c1 => ?_)
      · rw [if_pos c1] at h
        refine wk_iload C dX6_drawnTo_117 rfl ?_
        exact E _ _ _ _ _ _ (Nat.le_refl 0) (Nat.le_refl 0) dX6_drawnTo_119 ⟨l4I, rfl, h, hW, hE⟩
      · rw [if_neg c1] at h
        refine wk_iconst C (v := 0) dX6_drawnTo_15 (by decide) ?_
        refine wk_istore C (lv' := [some (.ref l0A), none, some (.int l2I), some (.int l3I), some (.int l4I), some (.int l5I), some (.int (0 : Int32)), none, none]) dX6_drawnTo_16 (by decide) rfl ?_
        exact wk_forget (lv' := [some (.ref l0A), none, some (.int l2I), some (.int l3I), some (.int l4I), some (.int l5I), some (.int (0 : Int32)), none, none]) (wkLs.le ⟨rfl, rfl, rfl, rfl, rfl, rfl, trivial⟩) (ih.2 _ _ _ _ _ _ _ hW hE hl0A h)
    · intro l0A l2I l3I l4I l5I l6I S hW hE hl0A h
      have h : rX6_drawnTo_b1 F (rX6_drawnTo_go F k') l0A l2I l3I l4I l5I l6I S Φ := by
        rw [rX6_drawnTo_go, if_neg (show ¬ (1 : Nat) = 0 by decide), if_pos (rfl : (1 : Nat) = 1)] at h
        exact h
      unfold rX6_drawnTo_b1 at h
      refine wk_iload C dX6_drawnTo_18 rfl ?_
      refine wk_aload_n C dX6_drawnTo_20 rfl rfl ?_
      refine wk_get C (v := .int (gMachines_size S l0A)) huX6_drawnTo_6 hl0A.1 (fun cy => wAt_6 cy _ hl0A.2) rfl 7 (by decide) (List.mem_of_getElem? (i := 1) rfl) rfl rfl dX6_drawnTo_21 ?_
      refine wk_icmp_ge C (tgt := 111) dX6_drawnTo_24 (by decide) (fun c2 => ?_) (fun c2 => ?_)
      · rw [if_pos c2] at h
        obtain ⟨x3, ex3, h⟩ := wkLt_some h
        refine wk_iinc C (lv' := [some (.ref l0A), none, some (.int l2I), some (.int l3I), some (.int l4I), some (.int x3), some (.int l6I), none, none]) dX6_drawnTo_111 rfl (by rw [ex3]; rfl) (by decide) rfl ?_
        refine wk_goto C (tgt := 6) dX6_drawnTo_114 (by decide) ?_
        exact wk_forget (lv' := [some (.ref l0A), none, some (.int l2I), some (.int l3I), some (.int l4I), some (.int x3), none, none, none]) (wkLs.le ⟨rfl, rfl, rfl, rfl, rfl, trivial⟩) (ih.1 _ _ _ _ _ _ hW hE hl0A h)
      · rw [if_neg c2] at h
        refine wk_aload_n C dX6_drawnTo_27 rfl rfl ?_
        refine wk_get C huX6_drawnTo_6 hl0A.1 (fun cy => wAt_6 cy _ hl0A.2) rfl 6 (by decide) (List.mem_of_getElem? (i := 2) rfl) rfl (congrArg some (congrArg va_rf (wf_Machines_ways hW hl0A).1)) dX6_drawnTo_28 ?_
        refine wk_iload C dX6_drawnTo_31 rfl ?_
        obtain ⟨i4, h⟩ := h
        refine wk_iald C (wf_Machines_ways hW hl0A).2.1 (wf_Machines_ways hW hl0A).2.2 i4 rfl dX6_drawnTo_33 ?_
        refine wk_iload_n C dX6_drawnTo_34 rfl rfl ?_
        refine wk_iand C dX6_drawnTo_35 rfl ?_
        obtain ⟨x5, ex5, h⟩ := wkLt_some h
        refine wk_topi ex5 ?_
        refine wk_istore C (lv' := [some (.ref l0A), none, some (.int l2I), some (.int l3I), some (.int l4I), some (.int l5I), some (.int l6I), some (.int x5), none]) dX6_drawnTo_36 (by decide) rfl ?_
        refine wk_aload_n C dX6_drawnTo_38 rfl rfl ?_
        refine wk_get C huX6_drawnTo_6 hl0A.1 (fun cy => wAt_6 cy _ hl0A.2) rfl 4 (by decide) (List.mem_of_getElem? (i := 3) rfl) rfl (congrArg some (congrArg va_rf (wf_Machines_owners hW hl0A).1)) dX6_drawnTo_39 ?_
        refine wk_iload C dX6_drawnTo_42 rfl ?_
        obtain ⟨i6, h⟩ := h
        refine wk_iald C (wf_Machines_owners hW hl0A).2.1 (wf_Machines_owners hW hl0A).2.2 i6 rfl dX6_drawnTo_44 ?_
        refine wk_iload_n C dX6_drawnTo_45 rfl rfl ?_
        refine wk_icmp_ne C (tgt := 65) dX6_drawnTo_46 (by decide) (fun c7 => ?_) (fun c7 => ?_)
        · rw [if_neg c7] at h
          refine wk_iload C dX6_drawnTo_65 rfl ?_
          refine wk_iload C dX6_drawnTo_67 rfl ?_
          refine wk_iconst C (v := (-1)) dX6_drawnTo_69 (by decide) ?_
          refine wk_ixor C dX6_drawnTo_70 rfl ?_
          refine wk_iand C dX6_drawnTo_71 rfl ?_
          refine wk_if_ne C (tgt := 79) dX6_drawnTo_72 (by decide) (fun c8 => ?_) (fun c8 => ?_)
          · rw [if_neg c8] at h
            refine wk_iconst C (v := 0) dX6_drawnTo_79 (by decide) ?_
            refine wk_istore C (lv' := [some (.ref l0A), none, some (.int l2I), some (.int l3I), some (.int l4I), some (.int l5I), some (.int l6I), some (.int x5), some (.int (0 : Int32))]) dX6_drawnTo_80 (by decide) rfl ?_
            refine wk_iload_n C dX6_drawnTo_82 rfl rfl ?_
            refine wk_iload C dX6_drawnTo_83 rfl ?_
            refine wk_callN C hR (y := yX11_has) (host := "Witnessworks") (As := [.int l3I, .int l6I]) (cnt := 2) (tX11_has (l := l) hW  h) rfl (fun w h => ⟨hbX6_drawnTo_X11_has w h, gdX11_has w h⟩) (by decide +kernel) (List.mem_of_getElem? (i := 4) rfl) (List.mem_of_getElem? (i := 5) rfl) (Nat.le_trans (by decide : 0 + 1 ≤ 1) hd) (by decide) ⟨by decide, by decide, by decide +kernel⟩ rfl rfl (Nat.le_of_ble_eq_true rfl) (Nat.le_refl 0) (Nat.le_refl 0) dX6_drawnTo_85 (fun v' S10 hp => ?_)
            obtain ⟨v9, rfl, h, hWS10, hXS10⟩ := hp
            refine wk_if_eq C (tgt := 105) dX6_drawnTo_88 (by decide) (fun c14 => ?_) (fun c14 => ?_)
            · rw [if_pos c14] at h
              obtain ⟨x15, ex15, h⟩ := wkLt_some h
              refine wk_iinc C (lv' := [some (.ref l0A), none, some (.int l2I), some (.int l3I), some (.int l4I), some (.int l5I), some (.int x15), some (.int x5), some (.int (0 : Int32))]) dX6_drawnTo_105 rfl (by rw [ex15]; rfl) (by decide) rfl ?_
              refine wk_goto C (tgt := 18) dX6_drawnTo_108 (by decide) ?_
              exact wk_forget (lv' := [some (.ref l0A), none, some (.int l2I), some (.int l3I), some (.int l4I), some (.int l5I), some (.int x15), none, none]) (wkLs.le ⟨rfl, rfl, rfl, rfl, rfl, rfl, trivial⟩) (ih.2 _ _ _ _ _ _ _ hWS10 (wkExt.tr hE hXS10) (hXS10 _ _ hl0A) h)
            · rw [if_neg c14] at h
              refine wk_iload C dX6_drawnTo_91 rfl ?_
              refine wk_if_eq C (tgt := 105) dX6_drawnTo_93 (by decide) (fun _ => ?_) (fun c => False.elim (by revert c; decide))
              obtain ⟨x16, ex16, h⟩ := wkLt_some h
              refine wk_iinc C (lv' := [some (.ref l0A), none, some (.int l2I), some (.int l3I), some (.int l4I), some (.int l5I), some (.int x16), some (.int x5), some (.int (0 : Int32))]) dX6_drawnTo_105 rfl (by rw [ex16]; rfl) (by decide) rfl ?_
              refine wk_goto C (tgt := 18) dX6_drawnTo_108 (by decide) ?_
              exact wk_forget (lv' := [some (.ref l0A), none, some (.int l2I), some (.int l3I), some (.int l4I), some (.int l5I), some (.int x16), none, none]) (wkLs.le ⟨rfl, rfl, rfl, rfl, rfl, rfl, trivial⟩) (ih.2 _ _ _ _ _ _ _ hWS10 (wkExt.tr hE hXS10) (hXS10 _ _ hl0A) h)
          · rw [if_pos c8] at h
            refine wk_iconst C (v := 1) dX6_drawnTo_75 (by decide) ?_
            refine wk_goto C (tgt := 80) dX6_drawnTo_76 (by decide) ?_
            refine wk_istore C (lv' := [some (.ref l0A), none, some (.int l2I), some (.int l3I), some (.int l4I), some (.int l5I), some (.int l6I), some (.int x5), some (.int (1 : Int32))]) dX6_drawnTo_80 (by decide) rfl ?_
            refine wk_iload_n C dX6_drawnTo_82 rfl rfl ?_
            refine wk_iload C dX6_drawnTo_83 rfl ?_
            refine wk_callN C hR (y := yX11_has) (host := "Witnessworks") (As := [.int l3I, .int l6I]) (cnt := 2) (tX11_has (l := l) hW  h) rfl (fun w h => ⟨hbX6_drawnTo_X11_has w h, gdX11_has w h⟩) (by decide +kernel) (List.mem_of_getElem? (i := 4) rfl) (List.mem_of_getElem? (i := 5) rfl) (Nat.le_trans (by decide : 0 + 1 ≤ 1) hd) (by decide) ⟨by decide, by decide, by decide +kernel⟩ rfl rfl (Nat.le_of_ble_eq_true rfl) (Nat.le_refl 0) (Nat.le_refl 0) dX6_drawnTo_85 (fun v' S18 hp => ?_)
            obtain ⟨v17, rfl, h, hWS18, hXS18⟩ := hp
            refine wk_if_eq C (tgt := 105) dX6_drawnTo_88 (by decide) (fun c22 => ?_) (fun c22 => ?_)
            · rw [if_pos c22] at h
              obtain ⟨x23, ex23, h⟩ := wkLt_some h
              refine wk_iinc C (lv' := [some (.ref l0A), none, some (.int l2I), some (.int l3I), some (.int l4I), some (.int l5I), some (.int x23), some (.int x5), some (.int (1 : Int32))]) dX6_drawnTo_105 rfl (by rw [ex23]; rfl) (by decide) rfl ?_
              refine wk_goto C (tgt := 18) dX6_drawnTo_108 (by decide) ?_
              exact wk_forget (lv' := [some (.ref l0A), none, some (.int l2I), some (.int l3I), some (.int l4I), some (.int l5I), some (.int x23), none, none]) (wkLs.le ⟨rfl, rfl, rfl, rfl, rfl, rfl, trivial⟩) (ih.2 _ _ _ _ _ _ _ hWS18 (wkExt.tr hE hXS18) (hXS18 _ _ hl0A) h)
            · rw [if_neg c22] at h
              refine wk_iload C dX6_drawnTo_91 rfl ?_
              refine wk_if_eq C (tgt := 105) dX6_drawnTo_93 (by decide) (fun c => False.elim (by revert c; decide)) (fun _ => ?_)
              refine wk_iload C dX6_drawnTo_96 rfl ?_
              refine wk_iconst C (v := 1) dX6_drawnTo_98 (by decide) ?_
              refine wk_iload C dX6_drawnTo_99 rfl ?_
              refine wk_ishl C dX6_drawnTo_101 rfl ?_
              refine wk_ior C dX6_drawnTo_102 rfl ?_
              obtain ⟨x24, ex24, h⟩ := wkLt_some h
              refine wk_topi ex24 ?_
              refine wk_istore C (lv' := [some (.ref l0A), none, some (.int l2I), some (.int l3I), some (.int x24), some (.int l5I), some (.int l6I), some (.int x5), some (.int (1 : Int32))]) dX6_drawnTo_103 (by decide) rfl ?_
              obtain ⟨x25, ex25, h⟩ := wkLt_some h
              refine wk_iinc C (lv' := [some (.ref l0A), none, some (.int l2I), some (.int l3I), some (.int x24), some (.int l5I), some (.int x25), some (.int x5), some (.int (1 : Int32))]) dX6_drawnTo_105 rfl (by rw [ex25]; rfl) (by decide) rfl ?_
              refine wk_goto C (tgt := 18) dX6_drawnTo_108 (by decide) ?_
              exact wk_forget (lv' := [some (.ref l0A), none, some (.int l2I), some (.int l3I), some (.int x24), some (.int l5I), some (.int x25), none, none]) (wkLs.le ⟨rfl, rfl, rfl, rfl, rfl, rfl, trivial⟩) (ih.2 _ _ _ _ _ _ _ hWS18 (wkExt.tr hE hXS18) (hXS18 _ _ hl0A) h)
        · rw [if_pos c7] at h
          refine wk_iload C dX6_drawnTo_49 rfl ?_
          refine wk_iload C dX6_drawnTo_51 rfl ?_
          refine wk_iand C dX6_drawnTo_53 rfl ?_
          refine wk_if_eq C (tgt := 61) dX6_drawnTo_54 (by decide) (fun c26 => ?_) (fun c26 => ?_)
          · rw [if_pos c26] at h
            refine wk_iconst C (v := 0) dX6_drawnTo_61 (by decide) ?_
            refine wk_goto C (tgt := 80) dX6_drawnTo_62 (by decide) ?_
            refine wk_istore C (lv' := [some (.ref l0A), none, some (.int l2I), some (.int l3I), some (.int l4I), some (.int l5I), some (.int l6I), some (.int x5), some (.int (0 : Int32))]) dX6_drawnTo_80 (by decide) rfl ?_
            refine wk_iload_n C dX6_drawnTo_82 rfl rfl ?_
            refine wk_iload C dX6_drawnTo_83 rfl ?_
            refine wk_callN C hR (y := yX11_has) (host := "Witnessworks") (As := [.int l3I, .int l6I]) (cnt := 2) (tX11_has (l := l) hW  h) rfl (fun w h => ⟨hbX6_drawnTo_X11_has w h, gdX11_has w h⟩) (by decide +kernel) (List.mem_of_getElem? (i := 4) rfl) (List.mem_of_getElem? (i := 5) rfl) (Nat.le_trans (by decide : 0 + 1 ≤ 1) hd) (by decide) ⟨by decide, by decide, by decide +kernel⟩ rfl rfl (Nat.le_of_ble_eq_true rfl) (Nat.le_refl 0) (Nat.le_refl 0) dX6_drawnTo_85 (fun v' S28 hp => ?_)
            obtain ⟨v27, rfl, h, hWS28, hXS28⟩ := hp
            refine wk_if_eq C (tgt := 105) dX6_drawnTo_88 (by decide) (fun c32 => ?_) (fun c32 => ?_)
            · rw [if_pos c32] at h
              obtain ⟨x33, ex33, h⟩ := wkLt_some h
              refine wk_iinc C (lv' := [some (.ref l0A), none, some (.int l2I), some (.int l3I), some (.int l4I), some (.int l5I), some (.int x33), some (.int x5), some (.int (0 : Int32))]) dX6_drawnTo_105 rfl (by rw [ex33]; rfl) (by decide) rfl ?_
              refine wk_goto C (tgt := 18) dX6_drawnTo_108 (by decide) ?_
              exact wk_forget (lv' := [some (.ref l0A), none, some (.int l2I), some (.int l3I), some (.int l4I), some (.int l5I), some (.int x33), none, none]) (wkLs.le ⟨rfl, rfl, rfl, rfl, rfl, rfl, trivial⟩) (ih.2 _ _ _ _ _ _ _ hWS28 (wkExt.tr hE hXS28) (hXS28 _ _ hl0A) h)
            · rw [if_neg c32] at h
              refine wk_iload C dX6_drawnTo_91 rfl ?_
              refine wk_if_eq C (tgt := 105) dX6_drawnTo_93 (by decide) (fun _ => ?_) (fun c => False.elim (by revert c; decide))
              obtain ⟨x34, ex34, h⟩ := wkLt_some h
              refine wk_iinc C (lv' := [some (.ref l0A), none, some (.int l2I), some (.int l3I), some (.int l4I), some (.int l5I), some (.int x34), some (.int x5), some (.int (0 : Int32))]) dX6_drawnTo_105 rfl (by rw [ex34]; rfl) (by decide) rfl ?_
              refine wk_goto C (tgt := 18) dX6_drawnTo_108 (by decide) ?_
              exact wk_forget (lv' := [some (.ref l0A), none, some (.int l2I), some (.int l3I), some (.int l4I), some (.int l5I), some (.int x34), none, none]) (wkLs.le ⟨rfl, rfl, rfl, rfl, rfl, rfl, trivial⟩) (ih.2 _ _ _ _ _ _ _ hWS28 (wkExt.tr hE hXS28) (hXS28 _ _ hl0A) h)
          · rw [if_neg c26] at h
            refine wk_iconst C (v := 1) dX6_drawnTo_57 (by decide) ?_
            refine wk_goto C (tgt := 80) dX6_drawnTo_58 (by decide) ?_
            refine wk_istore C (lv' := [some (.ref l0A), none, some (.int l2I), some (.int l3I), some (.int l4I), some (.int l5I), some (.int l6I), some (.int x5), some (.int (1 : Int32))]) dX6_drawnTo_80 (by decide) rfl ?_
            refine wk_iload_n C dX6_drawnTo_82 rfl rfl ?_
            refine wk_iload C dX6_drawnTo_83 rfl ?_
            refine wk_callN C hR (y := yX11_has) (host := "Witnessworks") (As := [.int l3I, .int l6I]) (cnt := 2) (tX11_has (l := l) hW  h) rfl (fun w h => ⟨hbX6_drawnTo_X11_has w h, gdX11_has w h⟩) (by decide +kernel) (List.mem_of_getElem? (i := 4) rfl) (List.mem_of_getElem? (i := 5) rfl) (Nat.le_trans (by decide : 0 + 1 ≤ 1) hd) (by decide) ⟨by decide, by decide, by decide +kernel⟩ rfl rfl (Nat.le_of_ble_eq_true rfl) (Nat.le_refl 0) (Nat.le_refl 0) dX6_drawnTo_85 (fun v' S36 hp => ?_)
            obtain ⟨v35, rfl, h, hWS36, hXS36⟩ := hp
            refine wk_if_eq C (tgt := 105) dX6_drawnTo_88 (by decide) (fun c40 => ?_) (fun c40 => ?_)
            · rw [if_pos c40] at h
              obtain ⟨x41, ex41, h⟩ := wkLt_some h
              refine wk_iinc C (lv' := [some (.ref l0A), none, some (.int l2I), some (.int l3I), some (.int l4I), some (.int l5I), some (.int x41), some (.int x5), some (.int (1 : Int32))]) dX6_drawnTo_105 rfl (by rw [ex41]; rfl) (by decide) rfl ?_
              refine wk_goto C (tgt := 18) dX6_drawnTo_108 (by decide) ?_
              exact wk_forget (lv' := [some (.ref l0A), none, some (.int l2I), some (.int l3I), some (.int l4I), some (.int l5I), some (.int x41), none, none]) (wkLs.le ⟨rfl, rfl, rfl, rfl, rfl, rfl, trivial⟩) (ih.2 _ _ _ _ _ _ _ hWS36 (wkExt.tr hE hXS36) (hXS36 _ _ hl0A) h)
            · rw [if_neg c40] at h
              refine wk_iload C dX6_drawnTo_91 rfl ?_
              refine wk_if_eq C (tgt := 105) dX6_drawnTo_93 (by decide) (fun c => False.elim (by revert c; decide)) (fun _ => ?_)
              refine wk_iload C dX6_drawnTo_96 rfl ?_
              refine wk_iconst C (v := 1) dX6_drawnTo_98 (by decide) ?_
              refine wk_iload C dX6_drawnTo_99 rfl ?_
              refine wk_ishl C dX6_drawnTo_101 rfl ?_
              refine wk_ior C dX6_drawnTo_102 rfl ?_
              obtain ⟨x42, ex42, h⟩ := wkLt_some h
              refine wk_topi ex42 ?_
              refine wk_istore C (lv' := [some (.ref l0A), none, some (.int l2I), some (.int l3I), some (.int x42), some (.int l5I), some (.int l6I), some (.int x5), some (.int (1 : Int32))]) dX6_drawnTo_103 (by decide) rfl ?_
              obtain ⟨x43, ex43, h⟩ := wkLt_some h
              refine wk_iinc C (lv' := [some (.ref l0A), none, some (.int l2I), some (.int l3I), some (.int x42), some (.int l5I), some (.int x43), some (.int x5), some (.int (1 : Int32))]) dX6_drawnTo_105 rfl (by rw [ex43]; rfl) (by decide) rfl ?_
              refine wk_goto C (tgt := 18) dX6_drawnTo_108 (by decide) ?_
              exact wk_forget (lv' := [some (.ref l0A), none, some (.int l2I), some (.int l3I), some (.int x42), some (.int l5I), some (.int x43), none, none]) (wkLs.le ⟨rfl, rfl, rfl, rfl, rfl, rfl, trivial⟩) (ih.2 _ _ _ _ _ _ _ hWS36 (wkExt.tr hE hXS36) (hXS36 _ _ hl0A) h)
set_option maxHeartbeats 4000000 in
set_option maxRecDepth 100000 in
theorem tX6_drawnTo {l : Launch} {g : wkG} {F : Nat}  {S : wPS} {l0A : Nat} {l1I : Int32} {l2I : Int32} {l3I : Int32} {Φ : (Int32 → wPS → Prop)} (hW : wkWF S) (hl0A : wkIs S l0A 6) (h : rX6_drawnTo F l0A l1I l2I l3I S Φ) : wkMet l g yX6_drawnTo wvX6_drawnTo 1 0 0 [.ref l0A, .int l1I, .int l2I, .int l3I] S (fun v' S'' => ∃ v : Int32, v' = some (.int v) ∧ Φ v S'' ∧ wkWF S'' ∧ wkExt S S'') := by
  refine wkMet_of (ret := (some .int)) (by decide) rfl (Nat.le_of_ble_eq_true rfl) (fun X hg C hR E => ?_)
  subst hg
  have hE : wkExt S S := wkExt.rf
  have hd : 1 ≤ 1 := Nat.le_refl _
  show wkGo l X 9 0 0 0 S [some (.ref l0A), some (.int l1I), some (.int l2I), some (.int l3I), none, none, none, none, none] []
  have ih := tX6_drawnTo_go (F := F) C hR hd E F
  have h : rX6_drawnTo_s F (rX6_drawnTo_go F F) l0A l1I l2I l3I S Φ := h
  unfold rX6_drawnTo_s at h
  refine wk_iload_n C dX6_drawnTo_0 rfl rfl ?_
  refine wk_istore C (lv' := [some (.ref l0A), some (.int l1I), some (.int l2I), some (.int l3I), some (.int l1I), none, none, none, none]) dX6_drawnTo_1 (by decide) rfl ?_
  refine wk_iconst C (v := 0) dX6_drawnTo_3 (by decide) ?_
  refine wk_istore C (lv' := [some (.ref l0A), some (.int l1I), some (.int l2I), some (.int l3I), some (.int l1I), some (.int (0 : Int32)), none, none, none]) dX6_drawnTo_4 (by decide) rfl ?_
  exact wk_forget (lv' := [some (.ref l0A), none, some (.int l2I), some (.int l3I), some (.int l1I), some (.int (0 : Int32)), none, none, none]) (wkLs.le ⟨rfl, rfl, rfl, rfl, rfl, trivial⟩) (ih.1 _ _ _ _ _ _ hW hE hl0A h)
