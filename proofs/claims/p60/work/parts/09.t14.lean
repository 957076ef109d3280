def wvX8_movePoint : List Cond := .code yX8_movePoint cX8_movePoint 5 none :: (([.fieldLink RX8 11 "Witnessworks$Numbers" "point" "[J", .fieldLink RX8 17 "Witnessworks$Numbers" "basis" "[[J"] : List Cond) ++ ((wsX80) ++ ([])))
theorem huX8_movePoint_8 : ∀ w ∈ u_ws RX8 TX8 9, w ∈ wvX8_movePoint := fun w h => List.mem_cons_of_mem _ (List.mem_append_right _ (List.mem_append_left _ h))
theorem gdX8_movePoint : ∀ w ∈ wvX8_movePoint, wkGd w := wkGdC rfl (wkGdA (wkGdL (by decide +kernel)) (wkGdA gdX8 (fun _ h => absurd h List.not_mem_nil)))
def rX8_movePoint_b0 (F : Nat) (rec : Nat → Nat → Int32 → Int64 → Int32 → wPS → (Unit → wPS → Prop) → Prop) (l0A : Nat) (l1I : Int32) (l2J : Int64) (l4I : Int32) (S : wPS) (Φ : (Unit → wPS → Prop)) : Prop :=
  if (4 : Int32) ≤ l4I then (Φ () S) else (¬ (l4I < 0 ∨ S.len (wkAd (gNumbers_point S l0A)) ≤ (l4I).toNatClampNeg) ∧ ¬ (l1I < 0 ∨ S.len (wkAd (gNumbers_basis S l0A)) ≤ (l1I).toNatClampNeg) ∧ ¬ (l4I < 0 ∨ S.len (wkAd (S.rA (wkAd (gNumbers_basis S l0A)) (l1I).toNatClampNeg)) ≤ (l4I).toNatClampNeg) ∧ ¬ (l4I < 0 ∨ S.len (wkAd (gNumbers_point S l0A)) ≤ (l4I).toNatClampNeg) ∧ wkLt (wuJ S (wkAd (gNumbers_point S l0A)) l4I ((S.rJ (wkAd (gNumbers_point S l0A)) (l4I).toNatClampNeg) + (l2J * (S.rJ (wkAd (S.rA (wkAd (gNumbers_basis S l0A)) (l1I).toNatClampNeg)) (l4I).toNatClampNeg)))) fun S7 => wkLt (l4I + (1 : Int32)) fun x8 => rec 0 l0A l1I l2J x8 S7 Φ)
def rX8_movePoint_go (F : Nat) : Nat → Nat → Nat → Int32 → Int64 → Int32 → wPS → (Unit → wPS → Prop) → Prop
  | 0, _, _, _, _, _, _, _ => False
  | k' + 1, lab, l0A, l1I, l2J, l4I, S, Φ => if lab = 0 then rX8_movePoint_b0 F (rX8_movePoint_go F k') l0A l1I l2J l4I S Φ else False
def rX8_movePoint_s (F : Nat) (rec : Nat → Nat → Int32 → Int64 → Int32 → wPS → (Unit → wPS → Prop) → Prop) (l0A : Nat) (l1I : Int32) (l2J : Int64) (S : wPS) (Φ : (Unit → wPS → Prop)) : Prop :=
  rec 0 l0A l1I l2J (0 : Int32) S Φ
def rX8_movePoint (F : Nat) (l0A : Nat) (l1I : Int32) (l2J : Int64) (S : wPS) (Φ : (Unit → wPS → Prop)) : Prop := rX8_movePoint_s F (rX8_movePoint_go F F) l0A l1I l2J S Φ
set_option maxHeartbeats 4000000 in
set_option maxRecDepth 100000 in
theorem tX8_movePoint_go {l : Launch} {X : wkX} {d F : Nat} {S0 : wPS} {Φ : (Unit → wPS → Prop)} (C : wkC X cX8_movePoint RX8 5 wvX8_movePoint) (hR : wkRm X d 0 0) (hd : 0 ≤ d) (E : wkEnd l X cX8_movePoint 5 none 0 0 (fun v' S'' => ∃ v : Unit, v' = none ∧ Φ v S'' ∧ wkWF S'' ∧ wkExt S0 S'')) : ∀ k' : Nat, (∀ (l0A : Nat) (l1I : Int32) (l2J : Int64) (l4I : Int32) (S : wPS), wkWF S → wkExt S0 S → wkIs S l0A 8 → rX8_movePoint_go F k' 0 l0A l1I l2J l4I S Φ → wkGo l X 5 0 0 3 S [some (.ref l0A), some (.int l1I), some (.long l2J), none, some (.int l4I)] []) := by
  intro k'
  induction k' with
  | zero => exact fun l0A l1I l2J l4I S hW hE hl0A h => h.elim
  | succ k' ih =>
    · intro l0A l1I l2J l4I S hW hE hl0A h
      have h : rX8_movePoint_b0 F (rX8_movePoint_go F k') l0A l1I l2J l4I S Φ := by
        rw [rX8_movePoint_go, if_pos (rfl : (0 : Nat) = 0)] at h
        exact h
      unfold rX8_movePoint_b0 at h
      refine wk_iload C dX8_movePoint_3 rfl ?_
      refine wk_iconst C (v := 4) dX8_movePoint_5 (by decide) ?_
      refine wk_icmp_ge C (tgt := 36) dX8_movePoint_6 (by decide) (fun c1 => ?_) (fun c1 => ?_)
      · rw [if_pos c1] at h
        exact E _ _ _ _ _ (Nat.le_refl 0) (Nat.le_refl 0) dX8_movePoint_36 ⟨(), rfl, h, hW, hE⟩
      · rw [if_neg c1] at h
        refine wk_aload_n C dX8_movePoint_9 rfl rfl ?_
        refine wk_get C huX8_movePoint_8 hl0A.1 (fun cy => wAt_8 cy _ hl0A.2) rfl 0 (by decide) (List.mem_of_getElem? (i := 1) rfl) rfl (congrArg some (congrArg va_rf (wf_Numbers_point hW hl0A).1)) dX8_movePoint_10 ?_
        refine wk_iload C dX8_movePoint_13 rfl ?_
        refine wk_dup2 C dX8_movePoint_15 rfl rfl ?_
        obtain ⟨i2, h⟩ := h
        refine wk_lald C (wf_Numbers_point hW hl0A).2.1 (wf_Numbers_point hW hl0A).2.2 i2 rfl dX8_movePoint_16 ?_
        refine wk_lload_n C dX8_movePoint_17 rfl rfl ?_
        refine wk_aload_n C dX8_movePoint_18 rfl rfl ?_
        refine wk_get C huX8_movePoint_8 hl0A.1 (fun cy => wAt_8 cy _ hl0A.2) rfl 1 (by decide) (List.mem_of_getElem? (i := 2) rfl) rfl (congrArg some (congrArg va_rf (wf_Numbers_basis hW hl0A).1)) dX8_movePoint_19 ?_
        refine wk_iload_n C dX8_movePoint_22 rfl rfl ?_
        obtain ⟨i3, h⟩ := h
        have w4 := wf_R_J hW (wf_Numbers_basis hW hl0A).2 (Nat.not_le.mp fun q => i3 (Or.inr q))
        refine wk_aald_J C (wf_Numbers_basis hW hl0A).2.1 (wf_Numbers_basis hW hl0A).2.2 i3 w4.1 dX8_movePoint_23 ?_
        refine wk_iload C dX8_movePoint_24 rfl ?_
        obtain ⟨i5, h⟩ := h
        refine wk_lald C w4.2.1 w4.2.2 i5 rfl dX8_movePoint_26 ?_
        refine wk_lmul C dX8_movePoint_27 rfl ?_
        refine wk_ladd C dX8_movePoint_28 rfl ?_
        obtain ⟨i6, h⟩ := h
        obtain ⟨S7, eS7, h⟩ := wkLt_some h
        refine wk_last C (wf_Numbers_point hW hl0A).2.1 (wf_Numbers_point hW hl0A).2.2 i6 eS7.symm dX8_movePoint_29 ?_
        have hWS7 : wkWF S7 := by rw [eS7]; exact hW
        have hXS7 : wkExt S S7 := by rw [eS7]; exact wkExt.rf
        obtain ⟨x8, ex8, h⟩ := wkLt_some h
        refine wk_iinc C (lv' := [some (.ref l0A), some (.int l1I), some (.long l2J), none, some (.int x8)]) dX8_movePoint_30 rfl (by rw [ex8]; rfl) (by decide) rfl ?_
        refine wk_goto C (tgt := 3) dX8_movePoint_33 (by decide) ?_
        exact wk_forget (lv' := [some (.ref l0A), some (.int l1I), some (.long l2J), none, some (.int x8)]) (wkLs.le ⟨rfl, rfl, rfl, rfl, trivial⟩) (ih _ _ _ _ _ hWS7 (wkExt.tr hE hXS7) (hXS7 _ _ hl0A) h)
set_option maxHeartbeats 4000000 in
set_option maxRecDepth 100000 in
theorem tX8_movePoint {l : Launch} {g : wkG} {F : Nat}  {S : wPS} {l0A : Nat} {l1I : Int32} {l2J : Int64} {Φ : (Unit → wPS → Prop)} (hW : wkWF S) (hl0A : wkIs S l0A 8) (h : rX8_movePoint F l0A l1I l2J S Φ) : wkMet l g yX8_movePoint wvX8_movePoint 0 0 0 [.ref l0A, .int l1I, .long l2J] S (fun v' S'' => ∃ v : Unit, v' = none ∧ Φ v S'' ∧ wkWF S'' ∧ wkExt S S'') := by
  refine wkMet_of (ret := none) (by decide) rfl (Nat.le_of_ble_eq_true rfl) (fun X hg C hR E => ?_)
  subst hg
  have hE : wkExt S S := wkExt.rf
  have hd : 0 ≤ 0 := Nat.le_refl _
  show wkGo l X 5 0 0 0 S [some (.ref l0A), some (.int l1I), some (.long l2J), none, none] []
  have ih := tX8_movePoint_go (F := F) C hR hd E F
  have h : rX8_movePoint_s F (rX8_movePoint_go F F) l0A l1I l2J S Φ := h
  unfold rX8_movePoint_s at h
  refine wk_iconst C (v := 0) dX8_movePoint_0 (by decide) ?_
  refine wk_istore C (lv' := [some (.ref l0A), some (.int l1I), some (.long l2J), none, some (.int (0 : Int32))]) dX8_movePoint_1 (by decide) rfl ?_
  exact wk_forget (lv' := [some (.ref l0A), some (.int l1I), some (.long l2J), none, some (.int (0 : Int32))]) (wkLs.le ⟨rfl, rfl, rfl, rfl, trivial⟩) (ih _ _ _ _ _ hW hE hl0A h)
def wvX8_removeBasis : List Cond := .code yX8_removeBasis cX8_removeBasis 3 none :: (([.fieldLink RX8 17 "Witnessworks$Numbers" "basis" "[[J", .fieldLink RX8 80 "Witnessworks$Numbers" "basisCount" "I"] : List Cond) ++ ((wsX80) ++ ([])))
theorem huX8_removeBasis_8 : ∀ w ∈ u_ws RX8 TX8 9, w ∈ wvX8_removeBasis := fun w h => List.mem_cons_of_mem _ (List.mem_append_right _ (List.mem_append_left _ h))
theorem gdX8_removeBasis : ∀ w ∈ wvX8_removeBasis, wkGd w := wkGdC rfl (wkGdA (wkGdL (by decide +kernel)) (wkGdA gdX8 (fun _ h => absurd h List.not_mem_nil)))
def rX8_removeBasis_b0 (F : Nat) (rec : Nat → Nat → Int32 → Int32 → wPS → (Unit → wPS → Prop) → Prop) (l0A : Nat) (l1I : Int32) (l2I : Int32) (S : wPS) (Φ : (Unit → wPS → Prop)) : Prop :=
  if (4 : Int32) ≤ l2I then (Φ () S) else (¬ (l1I < 0 ∨ S.len (wkAd (gNumbers_basis S l0A)) ≤ (l1I).toNatClampNeg) ∧ ¬ ((gNumbers_basisCount S l0A) < 0 ∨ S.len (wkAd (gNumbers_basis S l0A)) ≤ ((gNumbers_basisCount S l0A)).toNatClampNeg) ∧ ¬ (l2I < 0 ∨ S.len (wkAd (S.rA (wkAd (gNumbers_basis S l0A)) ((gNumbers_basisCount S l0A)).toNatClampNeg)) ≤ (l2I).toNatClampNeg) ∧ ¬ (l2I < 0 ∨ S.len (wkAd (S.rA (wkAd (gNumbers_basis S l0A)) (l1I).toNatClampNeg)) ≤ (l2I).toNatClampNeg) ∧ wkLt (wuJ S (wkAd (S.rA (wkAd (gNumbers_basis S l0A)) (l1I).toNatClampNeg)) l2I (S.rJ (wkAd (S.rA (wkAd (gNumbers_basis S l0A)) ((gNumbers_basisCount S l0A)).toNatClampNeg)) (l2I).toNatClampNeg)) fun S8 => wkLt (l2I + (1 : Int32)) fun x9 => rec 0 l0A l1I x9 S8 Φ)
def rX8_removeBasis_go (F : Nat) : Nat → Nat → Nat → Int32 → Int32 → wPS → (Unit → wPS → Prop) → Prop
  | 0, _, _, _, _, _, _ => False
  | k' + 1, lab, l0A, l1I, l2I, S, Φ => if lab = 0 then rX8_removeBasis_b0 F (rX8_removeBasis_go F k') l0A l1I l2I S Φ else False
def rX8_removeBasis_s (F : Nat) (rec : Nat → Nat → Int32 → Int32 → wPS → (Unit → wPS → Prop) → Prop) (l0A : Nat) (l1I : Int32) (S : wPS) (Φ : (Unit → wPS → Prop)) : Prop :=
  wkLt (wu_Numbers_basisCount S l0A ((gNumbers_basisCount S l0A) - (1 : Int32))) fun S10 => rec 0 l0A l1I (0 : Int32) S10 Φ
def rX8_removeBasis (F : Nat) (l0A : Nat) (l1I : Int32) (S : wPS) (Φ : (Unit → wPS → Prop)) : Prop := rX8_removeBasis_s F (rX8_removeBasis_go F F) l0A l1I S Φ
set_option maxHeartbeats 4000000 in
set_option maxRecDepth 100000 in
theorem tX8_removeBasis_go {l : Launch} {X : wkX} {d F : Nat} {S0 : wPS} {Φ : (Unit → wPS → Prop)} (C : wkC X cX8_removeBasis RX8 3 wvX8_removeBasis) (hR : wkRm X d 0 0) (hd : 0 ≤ d) (E : wkEnd l X cX8_removeBasis 3 none 0 0 (fun v' S'' => ∃ v : Unit, v' = none ∧ Φ v S'' ∧ wkWF S'' ∧ wkExt S0 S'')) : ∀ k' : Nat, (∀ (l0A : Nat) (l1I : Int32) (l2I : Int32) (S : wPS), wkWF S → wkExt S0 S → wkIs S l0A 8 → rX8_removeBasis_go F k' 0 l0A l1I l2I S Φ → wkGo l X 3 0 0 12 S [some (.ref l0A), some (.int l1I), some (.int l2I)] []) := by
  intro k'
  induction k' with
  | zero => exact fun l0A l1I l2I S hW hE hl0A h => h.elim
  | succ k' ih =>
    · intro l0A l1I l2I S hW hE hl0A h
      have h : rX8_removeBasis_b0 F (rX8_removeBasis_go F k') l0A l1I l2I S Φ := by
        rw [rX8_removeBasis_go, if_pos (rfl : (0 : Nat) = 0)] at h
        exact h
      unfold rX8_removeBasis_b0 at h
      refine wk_iload_n C dX8_removeBasis_12 rfl rfl ?_
      refine wk_iconst C (v := 4) dX8_removeBasis_13 (by decide) ?_
      refine wk_icmp_ge C (tgt := 42) dX8_removeBasis_14 (by decide) (fun c1 => ?_) (fun c1 => ?_)
      · rw [if_pos c1] at h
        exact E _ _ _ _ _ (Nat.le_refl 0) (Nat.le_refl 0) dX8_removeBasis_42 ⟨(), rfl, h, hW, hE⟩
      · rw [if_neg c1] at h
        refine wk_aload_n C dX8_removeBasis_17 rfl rfl ?_
        refine wk_get C huX8_removeBasis_8 hl0A.1 (fun cy => wAt_8 cy _ hl0A.2) rfl 1 (by decide) (List.mem_of_getElem? (i := 1) rfl) rfl (congrArg some (congrArg va_rf (wf_Numbers_basis hW hl0A).1)) dX8_removeBasis_18 ?_
        refine wk_iload_n C dX8_removeBasis_21 rfl rfl ?_
        obtain ⟨i2, h⟩ := h
        have w3 := wf_R_J hW (wf_Numbers_basis hW hl0A).2 (Nat.not_le.mp fun q => i2 (Or.inr q))
        refine wk_aald_J C (wf_Numbers_basis hW hl0A).2.1 (wf_Numbers_basis hW hl0A).2.2 i2 w3.1 dX8_removeBasis_22 ?_
        refine wk_iload_n C dX8_removeBasis_23 rfl rfl ?_
        refine wk_aload_n C dX8_removeBasis_24 rfl rfl ?_
        refine wk_get C huX8_removeBasis_8 hl0A.1 (fun cy => wAt_8 cy _ hl0A.2) rfl 1 (by decide) (List.mem_of_getElem? (i := 1) rfl) rfl (congrArg some (congrArg va_rf (wf_Numbers_basis hW hl0A).1)) dX8_removeBasis_25 ?_
        refine wk_aload_n C dX8_removeBasis_28 rfl rfl ?_
        refine wk_get C (v := .int (gNumbers_basisCount S l0A)) huX8_removeBasis_8 hl0A.1 (fun cy => wAt_8 cy _ hl0A.2) rfl 3 (by decide) (List.mem_of_getElem? (i := 2) rfl) rfl rfl dX8_removeBasis_29 ?_
        obtain ⟨i4, h⟩ := h
        have w5 := wf_R_J hW (wf_Numbers_basis hW hl0A).2 (Nat.not_le.mp fun q => i4 (Or.inr q))
        refine wk_aald_J C (wf_Numbers_basis hW hl0A).2.1 (wf_Numbers_basis hW hl0A).2.2 i4 w5.1 dX8_removeBasis_32 ?_
        refine wk_iload_n C dX8_removeBasis_33 rfl rfl ?_
        obtain ⟨i6, h⟩ := h
        refine wk_lald C w5.2.1 w5.2.2 i6 rfl dX8_removeBasis_34 ?_
        obtain ⟨i7, h⟩ := h
        obtain ⟨S8, eS8, h⟩ := wkLt_some h
        refine wk_last C w3.2.1 w3.2.2 i7 eS8.symm dX8_removeBasis_35 ?_
        have hWS8 : wkWF S8 := by rw [eS8]; exact hW
        have hXS8 : wkExt S S8 := by rw [eS8]; exact wkExt.rf
        obtain ⟨x9, ex9, h⟩ := wkLt_some h
        refine wk_iinc C (lv' := [some (.ref l0A), some (.int l1I), some (.int x9)]) dX8_removeBasis_36 rfl (by rw [ex9]; rfl) (by decide) rfl ?_
        refine wk_goto C (tgt := 12) dX8_removeBasis_39 (by decide) ?_
        exact wk_forget (lv' := [some (.ref l0A), some (.int l1I), some (.int x9)]) (wkLs.le ⟨rfl, rfl, rfl, trivial⟩) (ih _ _ _ _ hWS8 (wkExt.tr hE hXS8) (hXS8 _ _ hl0A) h)
set_option maxHeartbeats 4000000 in
set_option maxRecDepth 100000 in
theorem tX8_removeBasis {l : Launch} {g : wkG} {F : Nat}  {S : wPS} {l0A : Nat} {l1I : Int32} {Φ : (Unit → wPS → Prop)} (hW : wkWF S) (hl0A : wkIs S l0A 8) (h : rX8_removeBasis F l0A l1I S Φ) : wkMet l g yX8_removeBasis wvX8_removeBasis 0 0 0 [.ref l0A, .int l1I] S (fun v' S'' => ∃ v : Unit, v' = none ∧ Φ v S'' ∧ wkWF S'' ∧ wkExt S S'') := by
  refine wkMet_of (ret := none) (by decide) rfl (Nat.le_of_ble_eq_true rfl) (fun X hg C hR E => ?_)
  subst hg
  have hE : wkExt S S := wkExt.rf
  have hd : 0 ≤ 0 := Nat.le_refl _
  show wkGo l X 3 0 0 0 S [some (.ref l0A), some (.int l1I), none] []
  have ih := tX8_removeBasis_go (F := F) C hR hd E F
  have h : rX8_removeBasis_s F (rX8_removeBasis_go F F) l0A l1I S Φ := h
  unfold rX8_removeBasis_s at h
  refine wk_aload_n C dX8_removeBasis_0 rfl rfl ?_
  refine wk_dup C dX8_removeBasis_1 rfl ?_
  refine wk_get C (v := .int (gNumbers_basisCount S l0A)) huX8_removeBasis_8 hl0A.1 (fun cy => wAt_8 cy _ hl0A.2) rfl 3 (by decide) (List.mem_of_getElem? (i := 2) rfl) rfl rfl dX8_removeBasis_2 ?_
  refine wk_iconst C (v := 1) dX8_removeBasis_5 (by decide) ?_
  refine wk_isub C dX8_removeBasis_6 rfl ?_
  obtain ⟨S10, eS10, h⟩ := wkLt_some h
  refine wk_put C (S' := S10) huX8_removeBasis_8 hl0A.1 (fun cy => wAt_8 cy _ hl0A.2) rfl 3 (by decide) (List.mem_of_getElem? (i := 2) rfl) rfl tyX8_ok nmX8 rfl (ty := .int) rfl rfl rfl (by show 3 < 9; decide) (fun cy b => by rw [eS10]; exact wSt_8_3 cy _ hl0A.2 _ b) (by rw [eS10]) dX8_removeBasis_7 ?_
  have hWS10 : wkWF S10 := by rw [eS10]; exact hW
  have hXS10 : wkExt S S10 := by rw [eS10]; exact wkExt.rf
  refine wk_iconst C (v := 0) dX8_removeBasis_10 (by decide) ?_
  refine wk_istore_n C (lv' := [some (.ref l0A), some (.int l1I), some (.int (0 : Int32))]) dX8_removeBasis_11 rfl (by decide) rfl ?_
  exact wk_forget (lv' := [some (.ref l0A), some (.int l1I), some (.int (0 : Int32))]) (wkLs.le ⟨rfl, rfl, rfl, trivial⟩) (ih _ _ _ _ hWS10 (wkExt.tr hE hXS10) (hXS10 _ _ hl0A) h)
def wvX8_areMultiples : List Cond := .code yX8_areMultiples cX8_areMultiples 10 (some .boolean) :: (([.fieldLink RX8 46 "Witnessworks$Entry" "size" "I", .methodLink RX8 77 yX3_at, .instanceMethod yX3_at, .selects RX3 yX3_at yX3_at, .initialized RX3] : List Cond) ++ ((wsX30) ++ (wvX3_at)))
theorem huX8_areMultiples_3 : ∀ w ∈ u_ws RX3 TX3 17, w ∈ wvX8_areMultiples := fun w h => List.mem_cons_of_mem _ (List.mem_append_right _ (List.mem_append_left _ h))
theorem hbX8_areMultiples_X3_at : ∀ w ∈ wvX3_at, w ∈ wvX8_areMultiples := fun w h => List.mem_cons_of_mem _ (List.mem_append_right _ (List.mem_append_right _ h))
theorem gdX8_areMultiples : ∀ w ∈ wvX8_areMultiples, wkGd w := wkGdC rfl (wkGdA (wkGdL (by decide +kernel)) (wkGdA gdX3 gdX3_at))
def rX8_areMultiples_b0 (F : Nat) (rec : Nat → Nat → Int64 → Int64 → Int64 → Int32 → wPS → (Int32 → wPS → Prop) → Prop) (l0A : Nat) (l1J : Int64) (l3J : Int64) (l5J : Int64) (l7I : Int32) (S : wPS) (Φ : (Int32 → wPS → Prop)) : Prop :=
  if (gEntry_size S l0A) ≤ l7I then (Φ (1 : Int32) S) else (rX3_at F l0A (0 : Int32) l7I S fun v2 S3 => rX3_at F l0A (1 : Int32) l7I S3 fun v7 S8 => wkLt ((((Int32.toInt64 v2) * l3J) + ((Int32.toInt64 v7) * l5J))) fun x12 => if (lg_cmp l1J (1 : Int64)) < 0 then (Φ (0 : Int32) S8) else (¬ l1J = 0 ∧ if (lg_cmp (x12 - x12 / l1J * l1J) (0 : Int64)) = 0 then (wkLt (l7I + (1 : Int32)) fun x16 => rec 0 l0A l1J l3J l5J x16 S8 Φ) else (Φ (0 : Int32) S8)))
def rX8_areMultiples_go (F : Nat) : Nat → Nat → Nat → Int64 → Int64 → Int64 → Int32 → wPS → (Int32 → wPS → Prop) → Prop
  | 0, _, _, _, _, _, _, _, _ => False
  | k' + 1, lab, l0A, l1J, l3J, l5J, l7I, S, Φ => if lab = 0 then rX8_areMultiples_b0 F (rX8_areMultiples_go F k') l0A l1J l3J l5J l7I S Φ else False
def rX8_areMultiples_s (F : Nat) (rec : Nat → Nat → Int64 → Int64 → Int64 → Int32 → wPS → (Int32 → wPS → Prop) → Prop) (l0A : Nat) (l1J : Int64) (l3J : Int64) (l5J : Int64) (S : wPS) (Φ : (Int32 → wPS → Prop)) : Prop :=
  rec 0 l0A l1J l3J l5J (0 : Int32) S Φ
def rX8_areMultiples (F : Nat) (l0A : Nat) (l1J : Int64) (l3J : Int64) (l5J : Int64) (S : wPS) (Φ : (Int32 → wPS → Prop)) : Prop := rX8_areMultiples_s F (rX8_areMultiples_go F F) l0A l1J l3J l5J S Φ
set_option maxHeartbeats 4000000 in
set_option maxRecDepth 100000 in
theorem tX8_areMultiples_go {l : Launch} {X : wkX} {d F : Nat} {S0 : wPS} {Φ : (Int32 → wPS → Prop)} (C : wkC X cX8_areMultiples RX8 10 wvX8_areMultiples) (hR : wkRm X d 0 0) (hd : 1 ≤ d) (E : wkEnd l X cX8_areMultiples 10 (some .boolean) 0 0 (fun v' S'' => ∃ v : Int32, v' = some (.int v) ∧ Φ v S'' ∧ wkWF S'' ∧ wkExt S0 S'')) : ∀ k' : Nat, (∀ (l0A : Nat) (l1J : Int64) (l3J : Int64) (l5J : Int64) (l7I : Int32) (S : wPS), wkWF S → wkExt S0 S → wkIs S l0A 3 → rX8_areMultiples_go F k' 0 l0A l1J l3J l5J l7I S Φ → wkGo l X 10 0 0 3 S [some (.ref l0A), some (.long l1J), none, some (.long l3J), none, some (.long l5J), none, some (.int l7I), none, none] []) := by
  intro k'
  induction k' with
  | zero => exact fun l0A l1J l3J l5J l7I S hW hE hl0A h => h.elim
  | succ k' ih =>
    · intro l0A l1J l3J l5J l7I S hW hE hl0A h
      have h : rX8_areMultiples_b0 F (rX8_areMultiples_go F k') l0A l1J l3J l5J l7I S Φ := by
        rw [rX8_areMultiples_go, if_pos (rfl : (0 : Nat) = 0)] at h
        exact h
      unfold rX8_areMultiples_b0 at h
      refine wk_iload C dX8_areMultiples_3 rfl ?_
      refine wk_aload_n C dX8_areMultiples_5 rfl rfl ?_
      refine wk_get C (v := .int (gEntry_size S l0A)) huX8_areMultiples_3 hl0A.1 (fun cy => wAt_3 cy _ hl0A.2) rfl 1 (by decide) (List.mem_of_getElem? (i := 1) rfl) rfl rfl dX8_areMultiples_6 ?_
      refine wk_icmp_ge C (tgt := 59) dX8_areMultiples_9 (by decide) (fun c1 => ?_) (fun c1 => ?_)
      · rw [if_pos c1] at h
        refine wk_iconst C (v := 1) dX8_areMultiples_59 (by decide) ?_
        exact E _ _ _ _ _ _ (Nat.le_refl 0) (Nat.le_refl 0) dX8_areMultiples_60 rfl ⟨(1 : Int32), rfl, h, hW, hE⟩
      · rw [if_neg c1] at h
        refine wk_aload_n C dX8_areMultiples_12 rfl rfl ?_
        refine wk_iconst C (v := 0) dX8_areMultiples_13 (by decide) ?_
        refine wk_iload C dX8_areMultiples_14 rfl ?_
        refine wk_callV C hR (As := [.int (0 : Int32), .int l7I]) (cnt := 2) (tX3_at (l := l) hW hl0A h) rfl (wkGoodV (List.mem_of_getElem? (i := 2) rfl) (List.mem_of_getElem? (i := 3) rfl) (List.mem_of_getElem? (i := 4) rfl) (List.mem_of_getElem? (i := 5) rfl) hbX8_areMultiples_X3_at gdX3_at) (Nat.le_trans (by decide : 0 + 1 ≤ 1) hd) (by decide) hl0A.1 (fun cy => wAt_3 cy _ hl0A.2) rfl ⟨by decide, by decide, by decide +kernel⟩ rfl rfl (Nat.le_of_ble_eq_true rfl) (Nat.le_refl 0) (Nat.le_refl 0) dX8_areMultiples_16 (fun v' S3 hp => ?_)
        obtain ⟨v2, rfl, h, hWS3, hXS3⟩ := hp
        refine wk_i2l C dX8_areMultiples_19 rfl ?_
        refine wk_lload_n C dX8_areMultiples_20 rfl rfl ?_
        refine wk_lmul C dX8_areMultiples_21 rfl ?_
        refine wk_aload_n C dX8_areMultiples_22 rfl rfl ?_
        refine wk_iconst C (v := 1) dX8_areMultiples_23 (by decide) ?_
        refine wk_iload C dX8_areMultiples_24 rfl ?_
        refine wk_callV C hR (As := [.int (1 : Int32), .int l7I]) (cnt := 2) (tX3_at (l := l) hWS3 (hXS3 _ _ hl0A) h) rfl (wkGoodV (List.mem_of_getElem? (i := 2) rfl) (List.mem_of_getElem? (i := 3) rfl) (List.mem_of_getElem? (i := 4) rfl) (List.mem_of_getElem? (i := 5) rfl) hbX8_areMultiples_X3_at gdX3_at) (Nat.le_trans (by decide : 0 + 1 ≤ 1) hd) (by decide) (hXS3 _ _ hl0A).1 (fun cy => wAt_3 cy _ (hXS3 _ _ hl0A).2) rfl ⟨by decide, by decide, by decide +kernel⟩ rfl rfl (Nat.le_of_ble_eq_true rfl) (Nat.le_refl 0) (Nat.le_refl 0) dX8_areMultiples_26 (fun v' S8 hp => ?_)
        obtain ⟨v7, rfl, h, hWS8, hXS8⟩ := hp
        refine wk_i2l C dX8_areMultiples_29 rfl ?_
        refine wk_lload C dX8_areMultiples_30 rfl ?_
        refine wk_lmul C dX8_areMultiples_32 rfl ?_
        refine wk_ladd C dX8_areMultiples_33 rfl ?_
        obtain ⟨x12, ex12, h⟩ := wkLt_some h
        refine wk_topl ex12 ?_
        refine wk_lstore C (lv' := [some (.ref l0A), some (.long l1J), none, some (.long l3J), none, some (.long l5J), none, some (.int l7I), some (.long x12), none]) dX8_areMultiples_34 (by decide) rfl ?_
        refine wk_lload_n C dX8_areMultiples_36 rfl rfl ?_
        refine wk_lconst C (v := 1) dX8_areMultiples_37 (by decide) ?_
        refine wk_lcmp C dX8_areMultiples_38 rfl ?_
        refine wk_if_lt C (tgt := 51) dX8_areMultiples_39 (by decide) (fun c13 => ?_) (fun c13 => ?_)
        · rw [if_pos c13] at h
          refine wk_iconst C (v := 0) dX8_areMultiples_51 (by decide) ?_
          exact E _ _ _ _ _ _ (Nat.le_refl 0) (Nat.le_refl 0) dX8_areMultiples_52 rfl ⟨(0 : Int32), rfl, h, hWS8, (wkExt.tr (wkExt.tr hE hXS3) hXS8)⟩
        · rw [if_neg c13] at h
          refine wk_lload C dX8_areMultiples_42 rfl ?_
          refine wk_lload_n C dX8_areMultiples_44 rfl rfl ?_
          obtain ⟨z14, h⟩ := h
          refine wk_lrem C dX8_areMultiples_45 z14 rfl ?_
          refine wk_lconst C (v := 0) dX8_areMultiples_46 (by decide) ?_
          refine wk_lcmp C dX8_areMultiples_47 rfl ?_
          refine wk_if_eq C (tgt := 53) dX8_areMultiples_48 (by decide) (fun c15 => ?_) (fun c15 => ?_)
          · rw [if_pos c15] at h
            obtain ⟨x16, ex16, h⟩ := wkLt_some h
            refine wk_iinc C (lv' := [some (.ref l0A), some (.long l1J), none, some (.long l3J), none, some (.long l5J), none, some (.int x16), some (.long x12), none]) dX8_areMultiples_53 rfl (by rw [ex16]; rfl) (by decide) rfl ?_
            refine wk_goto C (tgt := 3) dX8_areMultiples_56 (by decide) ?_
            exact wk_forget (lv' := [some (.ref l0A), some (.long l1J), none, some (.long l3J), none, some (.long l5J), none, some (.int x16), none, none]) (wkLs.le ⟨rfl, rfl, rfl, rfl, rfl, trivial⟩) (ih _ _ _ _ _ _ hWS8 (wkExt.tr (wkExt.tr hE hXS3) hXS8) (hXS8 _ _ (hXS3 _ _ hl0A)) h)
          · rw [if_neg c15] at h
            refine wk_iconst C (v := 0) dX8_areMultiples_51 (by decide) ?_
            exact E _ _ _ _ _ _ (Nat.le_refl 0) (Nat.le_refl 0) dX8_areMultiples_52 rfl ⟨(0 : Int32), rfl, h, hWS8, (wkExt.tr (wkExt.tr hE hXS3) hXS8)⟩
set_option maxHeartbeats 4000000 in
set_option maxRecDepth 100000 in
theorem tX8_areMultiples {l : Launch} {g : wkG} {F : Nat}  {S : wPS} {l0A : Nat} {l1J : Int64} {l3J : Int64} {l5J : Int64} {Φ : (Int32 → wPS → Prop)} (hW : wkWF S) (hl0A : wkIs S l0A 3) (h : rX8_areMultiples F l0A l1J l3J l5J S Φ) : wkMet l g yX8_areMultiples wvX8_areMultiples 1 0 0 [.ref l0A, .long l1J, .long l3J, .long l5J] S (fun v' S'' => ∃ v : Int32, v' = some (.int v) ∧ Φ v S'' ∧ wkWF S'' ∧ wkExt S S'') := by
  refine wkMet_of (ret := (some .boolean)) (by decide) rfl (Nat.le_of_ble_eq_true rfl) (fun X hg C hR E => ?_)
  subst hg
  have hE : wkExt S S := wkExt.rf
  have hd : 1 ≤ 1 := Nat.le_refl _
  show wkGo l X 10 0 0 0 S [some (.ref l0A), some (.long l1J), none, some (.long l3J), none, some (.long l5J), none, none, none, none] []
  have ih := tX8_areMultiples_go (F := F) C hR hd E F
  have h : rX8_areMultiples_s F (rX8_areMultiples_go F F) l0A l1J l3J l5J S Φ := h
  unfold rX8_areMultiples_s at h
  refine wk_iconst C (v := 0) dX8_areMultiples_0 (by decide) ?_
  refine wk_istore C (lv' := [some (.ref l0A), some (.long l1J), none, some (.long l3J), none, some (.long l5J), none, some (.int (0 : Int32)), none, none]) dX8_areMultiples_1 (by decide) rfl ?_
  exact wk_forget (lv' := [some (.ref l0A), some (.long l1J), none, some (.long l3J), none, some (.long l5J), none, some (.int (0 : Int32)), none, none]) (wkLs.le ⟨rfl, rfl, rfl, rfl, rfl, trivial⟩) (ih _ _ _ _ _ _ hW hE hl0A h)
def wvX8_isNoMultiple : List Cond := .code yX8_isNoMultiple cX8_isNoMultiple 9 (some .boolean) :: (([.fieldLink RX8 71 "Witnessworks$Entry" "itemCount" "I", .methodLink RX8 93 yX8_rightSide, .static yX8_rightSide, .initialized RX8] : List Cond) ++ ((wsX30) ++ (wvX8_rightSide)))
theorem huX8_isNoMultiple_3 : ∀ w ∈ u_ws RX3 TX3 17, w ∈ wvX8_isNoMultiple := fun w h => List.mem_cons_of_mem _ (List.mem_append_right _ (List.mem_append_left _ h))
theorem hbX8_isNoMultiple_X8_rightSide : ∀ w ∈ wvX8_rightSide, w ∈ wvX8_isNoMultiple := fun w h => List.mem_cons_of_mem _ (List.mem_append_right _ (List.mem_append_right _ h))
theorem gdX8_isNoMultiple : ∀ w ∈ wvX8_isNoMultiple, wkGd w := wkGdC rfl (wkGdA (wkGdL (by decide +kernel)) (wkGdA gdX3 gdX8_rightSide))
def rX8_isNoMultiple_b0 (F : Nat) (rec : Nat → Nat → Int64 → Int64 → Int64 → wPS → (Int32 → wPS → Prop) → Prop) (l0A : Nat) (l1J : Int64) (l5J : Int64) (l7J : Int64) (S : wPS) (Φ : (Int32 → wPS → Prop)) : Prop :=
  if (gEntry_itemCount S l0A) ≤ (1 : Int32) then (if (lg_cmp l1J (1 : Int64)) < 0 then (Φ (0 : Int32) S) else (¬ l1J = 0 ∧ if (lg_cmp (l7J - l7J / l1J * l1J) (0 : Int64)) = 0 then (Φ (0 : Int32) S) else (Φ (1 : Int32) S))) else (rX8_rightSide F l0A (1 : Int32) S fun v5 S6 => wkLt ((l7J + ((Int32.toInt64 v5) * l5J))) fun x10 => if (lg_cmp l1J (1 : Int64)) < 0 then (Φ (0 : Int32) S6) else (¬ l1J = 0 ∧ if (lg_cmp (x10 - x10 / l1J * l1J) (0 : Int64)) = 0 then (Φ (0 : Int32) S6) else (Φ (1 : Int32) S6)))
def rX8_isNoMultiple_go (F : Nat) : Nat → Nat → Nat → Int64 → Int64 → Int64 → wPS → (Int32 → wPS → Prop) → Prop
  | 0, _, _, _, _, _, _, _ => False
  | k' + 1, lab, l0A, l1J, l5J, l7J, S, Φ => if lab = 0 then rX8_isNoMultiple_b0 F (rX8_isNoMultiple_go F k') l0A l1J l5J l7J S Φ else False
def rX8_isNoMultiple_s (F : Nat) (rec : Nat → Nat → Int64 → Int64 → Int64 → wPS → (Int32 → wPS → Prop) → Prop) (l0A : Nat) (l1J : Int64) (l3J : Int64) (l5J : Int64) (S : wPS) (Φ : (Int32 → wPS → Prop)) : Prop :=
  if (gEntry_itemCount S l0A) ≤ 0 then (rec 0 l0A l1J l5J (0 : Int64) S Φ) else (rX8_rightSide F l0A (0 : Int32) S fun v15 S16 => wkLt (((0 : Int64) + ((Int32.toInt64 v15) * l3J))) fun x20 => rec 0 l0A l1J l5J x20 S16 Φ)
def rX8_isNoMultiple (F : Nat) (l0A : Nat) (l1J : Int64) (l3J : Int64) (l5J : Int64) (S : wPS) (Φ : (Int32 → wPS → Prop)) : Prop := rX8_isNoMultiple_s F (rX8_isNoMultiple_go F F) l0A l1J l3J l5J S Φ
set_option maxHeartbeats 4000000 in
set_option maxRecDepth 100000 in
theorem tX8_isNoMultiple_go {l : Launch} {X : wkX} {d F : Nat} {S0 : wPS} {Φ : (Int32 → wPS → Prop)} (C : wkC X cX8_isNoMultiple RX8 9 wvX8_isNoMultiple) (hR : wkRm X d 0 0) (hd : 2 ≤ d) (E : wkEnd l X cX8_isNoMultiple 9 (some .boolean) 0 0 (fun v' S'' => ∃ v : Int32, v' = some (.int v) ∧ Φ v S'' ∧ wkWF S'' ∧ wkExt S0 S'')) : ∀ k' : Nat, (∀ (l0A : Nat) (l1J : Int64) (l5J : Int64) (l7J : Int64) (S : wPS), wkWF S → wkExt S0 S → wkIs S l0A 3 → rX8_isNoMultiple_go F k' 0 l0A l1J l5J l7J S Φ → wkGo l X 9 0 0 23 S [some (.ref l0A), some (.long l1J), none, none, none, some (.long l5J), none, some (.long l7J), none] []) := by
  intro k'
  induction k' with
  | zero => exact fun l0A l1J l5J l7J S hW hE hl0A h => h.elim
  | succ k' ih =>
    · intro l0A l1J l5J l7J S hW hE hl0A h
      have h : rX8_isNoMultiple_b0 F (rX8_isNoMultiple_go F k') l0A l1J l5J l7J S Φ := by
        rw [rX8_isNoMultiple_go, if_pos (rfl : (0 : Nat) = 0)] at h
        exact h
      unfold rX8_isNoMultiple_b0 at h
      refine wk_aload_n C dX8_isNoMultiple_23 rfl rfl ?_
      refine wk_get C (v := .int (gEntry_itemCount S l0A)) huX8_isNoMultiple_3 hl0A.1 (fun cy => wAt_3 cy _ hl0A.2) rfl 6 (by decide) (List.mem_of_getElem? (i := 1) rfl) rfl rfl dX8_isNoMultiple_24 ?_
      refine wk_iconst C (v := 1) dX8_isNoMultiple_27 (by decide) ?_
      refine wk_icmp_le C (tgt := 45) dX8_isNoMultiple_28 (by decide) (fun c1 => ?_) (fun c1 => ?_)
      · rw [if_pos c1] at h
        refine wk_lload_n C dX8_isNoMultiple_45 rfl rfl ?_
        refine wk_lconst C (v := 1) dX8_isNoMultiple_46 (by decide) ?_
        refine wk_lcmp C dX8_isNoMultiple_47 rfl ?_
        refine wk_if_lt C (tgt := 64) dX8_isNoMultiple_48 (by decide) (fun c2 => ?_) (fun c2 => ?_)
        · rw [if_pos c2] at h
          refine wk_iconst C (v := 0) dX8_isNoMultiple_64 (by decide) ?_
          exact E _ _ _ _ _ _ (Nat.le_refl 0) (Nat.le_refl 0) dX8_isNoMultiple_65 rfl ⟨(0 : Int32), rfl, h, hW, hE⟩
        · rw [if_neg c2] at h
          refine wk_lload C dX8_isNoMultiple_51 rfl ?_
          refine wk_lload_n C dX8_isNoMultiple_53 rfl rfl ?_
          obtain ⟨z3, h⟩ := h
          refine wk_lrem C dX8_isNoMultiple_54 z3 rfl ?_
          refine wk_lconst C (v := 0) dX8_isNoMultiple_55 (by decide) ?_
          refine wk_lcmp C dX8_isNoMultiple_56 rfl ?_
          refine wk_if_eq C (tgt := 64) dX8_isNoMultiple_57 (by decide) (fun c4 => ?_) (fun c4 => ?_)
          · rw [if_pos c4] at h
            refine wk_iconst C (v := 0) dX8_isNoMultiple_64 (by decide) ?_
            exact E _ _ _ _ _ _ (Nat.le_refl 0) (Nat.le_refl 0) dX8_isNoMultiple_65 rfl ⟨(0 : Int32), rfl, h, hW, hE⟩
          · rw [if_neg c4] at h
            refine wk_iconst C (v := 1) dX8_isNoMultiple_60 (by decide) ?_
            refine wk_goto C (tgt := 65) dX8_isNoMultiple_61 (by decide) ?_
            exact E _ _ _ _ _ _ (Nat.le_refl 0) (Nat.le_refl 0) dX8_isNoMultiple_65 rfl ⟨(1 : Int32), rfl, h, hW, hE⟩
      · rw [if_neg c1] at h
        refine wk_lload C dX8_isNoMultiple_31 rfl ?_
        refine wk_aload_n C dX8_isNoMultiple_33 rfl rfl ?_
        refine wk_iconst C (v := 1) dX8_isNoMultiple_34 (by decide) ?_
        refine wk_callW C hR (As := [.ref l0A, .int (1 : Int32)]) (cnt := 2) (tX8_rightSide (l := l) hW hl0A h) rfl (wkGoodW (List.mem_of_getElem? (i := 2) rfl) (List.mem_of_getElem? (i := 3) rfl) (List.mem_of_getElem? (i := 4) rfl) hbX8_isNoMultiple_X8_rightSide gdX8_rightSide) (Nat.le_trans (by decide : 1 + 1 ≤ 2) hd) (by decide) ⟨by decide, by decide, by decide +kernel⟩ rfl rfl (Nat.le_of_ble_eq_true rfl) (Nat.le_refl 0) (Nat.le_refl 0) dX8_isNoMultiple_35 (fun v' S6 hp => ?_)
        obtain ⟨v5, rfl, h, hWS6, hXS6⟩ := hp
        refine wk_i2l C dX8_isNoMultiple_38 rfl ?_
        refine wk_lload C dX8_isNoMultiple_39 rfl ?_
        refine wk_lmul C dX8_isNoMultiple_41 rfl ?_
        refine wk_ladd C dX8_isNoMultiple_42 rfl ?_
        obtain ⟨x10, ex10, h⟩ := wkLt_some h
        refine wk_topl ex10 ?_
        refine wk_lstore C (lv' := [some (.ref l0A), some (.long l1J), none, none, none, some (.long l5J), none, some (.long x10), none]) dX8_isNoMultiple_43 (by decide) rfl ?_
        refine wk_lload_n C dX8_isNoMultiple_45 rfl rfl ?_
        refine wk_lconst C (v := 1) dX8_isNoMultiple_46 (by decide) ?_
        refine wk_lcmp C dX8_isNoMultiple_47 rfl ?_
        refine wk_if_lt C (tgt := 64) dX8_isNoMultiple_48 (by decide) (fun c11 => ?_) (fun c11 => ?_)
        · rw [if_pos c11] at h
          refine wk_iconst C (v := 0) dX8_isNoMultiple_64 (by decide) ?_
          exact E _ _ _ _ _ _ (Nat.le_refl 0) (Nat.le_refl 0) dX8_isNoMultiple_65 rfl ⟨(0 : Int32), rfl, h, hWS6, (wkExt.tr hE hXS6)⟩
        · rw [if_neg c11] at h
          refine wk_lload C dX8_isNoMultiple_51 rfl ?_
          refine wk_lload_n C dX8_isNoMultiple_53 rfl rfl ?_
          obtain ⟨z12, h⟩ := h
          refine wk_lrem C dX8_isNoMultiple_54 z12 rfl ?_
          refine wk_lconst C (v := 0) dX8_isNoMultiple_55 (by decide) ?_
          refine wk_lcmp C dX8_isNoMultiple_56 rfl ?_
          refine wk_if_eq C (tgt := 64) dX8_isNoMultiple_57 (by decide) (fun c13 => ?_) (fun c13 => ?_)
          · rw [if_pos c13] at h
            refine wk_iconst C (v := 0) dX8_isNoMultiple_64 (by decide) ?_
            exact E _ _ _ _ _ _ (Nat.le_refl 0) (Nat.le_refl 0) dX8_isNoMultiple_65 rfl ⟨(0 : Int32), rfl, h, hWS6, (wkExt.tr hE hXS6)⟩
          · rw [if_neg c13] at h
            refine wk_iconst C (v := 1) dX8_isNoMultiple_60 (by decide) ?_
            refine wk_goto C (tgt := 65) dX8_isNoMultiple_61 (by decide) ?_
            exact E _ _ _ _ _ _ (Nat.le_refl 0) (Nat.le_refl 0) dX8_isNoMultiple_65 rfl ⟨(1 : Int32), rfl, h, hWS6, (wkExt.tr hE hXS6)⟩
set_option maxHeartbeats 4000000 in
set_option maxRecDepth 100000 in
theorem tX8_isNoMultiple {l : Launch} {g : wkG} {F : Nat}  {S : wPS} {l0A : Nat} {l1J : Int64} {l3J : Int64} {l5J : Int64} {Φ : (Int32 → wPS → Prop)} (hW : wkWF S) (hl0A : wkIs S l0A 3) (h : rX8_isNoMultiple F l0A l1J l3J l5J S Φ) : wkMet l g yX8_isNoMultiple wvX8_isNoMultiple 2 0 0 [.ref l0A, .long l1J, .long l3J, .long l5J] S (fun v' S'' => ∃ v : Int32, v' = some (.int v) ∧ Φ v S'' ∧ wkWF S'' ∧ wkExt S S'') := by
  refine wkMet_of (ret := (some .boolean)) (by decide) rfl (Nat.le_of_ble_eq_true rfl) (fun X hg C hR E => ?_)
  subst hg
  have hE : wkExt S S := wkExt.rf
  have hd : 2 ≤ 2 := Nat.le_refl _
  show wkGo l X 9 0 0 0 S [some (.ref l0A), some (.long l1J), none, some (.long l3J), none, some (.long l5J), none, none, none] []
  have ih := tX8_isNoMultiple_go (F := F) C hR hd E F
  have h : rX8_isNoMultiple_s F (rX8_isNoMultiple_go F F) l0A l1J l3J l5J S Φ := h
  unfold rX8_isNoMultiple_s at h
  refine wk_lconst C (v := 0) dX8_isNoMultiple_0 (by decide) ?_
  refine wk_lstore C (lv' := [some (.ref l0A), some (.long l1J), none, some (.long l3J), none, some (.long l5J), none, some (.long (0 : Int64)), none]) dX8_isNoMultiple_1 (by decide) rfl ?_
  refine wk_aload_n C dX8_isNoMultiple_3 rfl rfl ?_
  refine wk_get C (v := .int (gEntry_itemCount S l0A)) huX8_isNoMultiple_3 hl0A.1 (fun cy => wAt_3 cy _ hl0A.2) rfl 6 (by decide) (List.mem_of_getElem? (i := 1) rfl) rfl rfl dX8_isNoMultiple_4 ?_
  refine wk_if_le C (tgt := 23) dX8_isNoMultiple_7 (by decide) (fun c14 => ?_) (fun c14 => ?_)
  · rw [if_pos c14] at h
    exact wk_forget (lv' := [some (.ref l0A), some (.long l1J), none, none, none, some (.long l5J), none, some (.long (0 : Int64)), none]) (wkLs.le ⟨rfl, rfl, rfl, rfl, trivial⟩) (ih _ _ _ _ _ hW hE hl0A h)
  · rw [if_neg c14] at h
    refine wk_lload C dX8_isNoMultiple_10 rfl ?_
    refine wk_aload_n C dX8_isNoMultiple_12 rfl rfl ?_
    refine wk_iconst C (v := 0) dX8_isNoMultiple_13 (by decide) ?_
    refine wk_callW C hR (As := [.ref l0A, .int (0 : Int32)]) (cnt := 2) (tX8_rightSide (l := l) hW hl0A h) rfl (wkGoodW (List.mem_of_getElem? (i := 2) rfl) (List.mem_of_getElem? (i := 3) rfl) (List.mem_of_getElem? (i := 4) rfl) hbX8_isNoMultiple_X8_rightSide gdX8_rightSide) (Nat.le_trans (by decide : 1 + 1 ≤ 2) hd) (by decide) ⟨by decide, by decide, by decide +kernel⟩ rfl rfl (Nat.le_of_ble_eq_true rfl) (Nat.le_refl 0) (Nat.le_refl 0) dX8_isNoMultiple_14 (fun v' S16 hp => ?_)
    obtain ⟨v15, rfl, h, hWS16, hXS16⟩ := hp
    refine wk_i2l C dX8_isNoMultiple_17 rfl ?_
    refine wk_lload_n C dX8_isNoMultiple_18 rfl rfl ?_
    refine wk_lmul C dX8_isNoMultiple_19 rfl ?_
    refine wk_ladd C dX8_isNoMultiple_20 rfl ?_
    obtain ⟨x20, ex20, h⟩ := wkLt_some h
    refine wk_topl ex20 ?_
    refine wk_lstore C (lv' := [some (.ref l0A), some (.long l1J), none, some (.long l3J), none, some (.long l5J), none, some (.long x20), none]) dX8_isNoMultiple_21 (by decide) rfl ?_
    exact wk_forget (lv' := [some (.ref l0A), some (.long l1J), none, none, none, some (.long l5J), none, some (.long x20), none]) (wkLs.le ⟨rfl, rfl, rfl, rfl, trivial⟩) (ih _ _ _ _ _ hWS16 (wkExt.tr hE hXS16) (hXS16 _ _ hl0A) h)
