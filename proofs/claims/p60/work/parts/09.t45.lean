def wvX10_unusedPoint : List Cond := .code yX10_unusedPoint cX10_unusedPoint 5 (some .int) :: (([.fieldLink RX10 71 "Witnessworks$Words" "size" "I", .static yX11_has, .initialized RX11] : List Cond) ++ ((wsX100) ++ (wvX11_has)))
theorem huX10_unusedPoint_10 : ∀ w ∈ u_ws RX10 TX10 12, w ∈ wvX10_unusedPoint := fun w h => List.mem_cons_of_mem _ (List.mem_append_right _ (List.mem_append_left _ h))
theorem hbX10_unusedPoint_X11_has : ∀ w ∈ wvX11_has, w ∈ wvX10_unusedPoint := fun w h => List.mem_cons_of_mem _ (List.mem_append_right _ (List.mem_append_right _ h))
theorem gdX10_unusedPoint : ∀ w ∈ wvX10_unusedPoint, wkGd w := wkGdC rfl (wkGdA (wkGdL (by decide +kernel)) (wkGdA gdX10 gdX11_has))
def rX10_unusedPoint_b0 (F : Nat) (rec : Nat → Nat → Int32 → Int32 → Int32 → wPS → (Int32 → wPS → Prop) → Prop) (l0A : Nat) (l1I : Int32) (l3I : Int32) (l4I : Int32) (S : wPS) (Φ : (Int32 → wPS → Prop)) : Prop :=
  if (gWords_size S l0A) ≤ l4I then (Φ (0 : Int32) S) else (rX11_has F l1I l4I S fun v2 S3 => if v2 = 0 then (if l3I = 0 then (Φ l4I S3) else (wkLt (l3I + (-1 : Int32)) fun x10 => wkLt (l4I + (1 : Int32)) fun x11 => rec 0 l0A l1I x10 x11 S3 Φ)) else (wkLt (l4I + (1 : Int32)) fun x8 => rec 0 l0A l1I l3I x8 S3 Φ))
def rX10_unusedPoint_go (F : Nat) : Nat → Nat → Nat → Int32 → Int32 → Int32 → wPS → (Int32 → wPS → Prop) → Prop
  | 0, _, _, _, _, _, _, _ => False
  | k' + 1, lab, l0A, l1I, l3I, l4I, S, Φ => if lab = 0 then rX10_unusedPoint_b0 F (rX10_unusedPoint_go F k') l0A l1I l3I l4I S Φ else False
def rX10_unusedPoint_s (F : Nat) (rec : Nat → Nat → Int32 → Int32 → Int32 → wPS → (Int32 → wPS → Prop) → Prop) (l0A : Nat) (l1I : Int32) (l2I : Int32) (S : wPS) (Φ : (Int32 → wPS → Prop)) : Prop :=
  rec 0 l0A l1I l2I (0 : Int32) S Φ
def rX10_unusedPoint (F : Nat) (l0A : Nat) (l1I : Int32) (l2I : Int32) (S : wPS) (Φ : (Int32 → wPS → Prop)) : Prop := rX10_unusedPoint_s F (rX10_unusedPoint_go F F) l0A l1I l2I S Φ
set_option maxHeartbeats 4000000 in
set_option maxRecDepth 100000 in
theorem tX10_unusedPoint_go {l : Launch} {X : wkX} {d F : Nat} {S0 : wPS} {Φ : (Int32 → wPS → Prop)} (C : wkC X cX10_unusedPoint RX10 5 wvX10_unusedPoint) (hR : wkRm X d 0 0) (hd : 1 ≤ d) (E : wkEnd l X cX10_unusedPoint 5 (some .int) 0 0 (fun v' S'' => ∃ v : Int32, v' = some (.int v) ∧ Φ v S'' ∧ wkWF S'' ∧ wkExt S0 S'')) : ∀ k' : Nat, (∀ (l0A : Nat) (l1I : Int32) (l3I : Int32) (l4I : Int32) (S : wPS), wkWF S → wkExt S0 S → wkIs S l0A 10 → rX10_unusedPoint_go F k' 0 l0A l1I l3I l4I S Φ → wkGo l X 5 0 0 5 S [some (.ref l0A), some (.int l1I), none, some (.int l3I), some (.int l4I)] []) := by
  intro k'
  induction k' with
  | zero => exact fun l0A l1I l3I l4I S hW hE hl0A h => h.elim
  | succ k' ih =>
    · intro l0A l1I l3I l4I S hW hE hl0A h
      have h : rX10_unusedPoint_b0 F (rX10_unusedPoint_go F k') l0A l1I l3I l4I S Φ := by
        rw [rX10_unusedPoint_go, if_pos (rfl : (0 : Nat) = 0)] at h
        exact h
      unfold rX10_unusedPoint_b0 at h
      refine wk_iload C dX10_unusedPoint_5 rfl ?_
      refine wk_aload_n C dX10_unusedPoint_7 rfl rfl ?_
      refine wk_get C (v := .int (gWords_size S l0A)) huX10_unusedPoint_10 hl0A.1 (fun cy => wAt_10 cy _ hl0A.2) rfl 10 (by decide) (List.mem_of_getElem? (i := 1) rfl) rfl rfl dX10_unusedPoint_8 ?_
      refine wk_icmp_ge C (tgt := 39) dX10_unusedPoint_11 (by decide) (fun c1 => ?_) (fun c1 => ?_)
      · rw [if_pos c1] at h
        refine wk_iconst C (v := 0) dX10_unusedPoint_39 (by decide) ?_
        exact E _ _ _ _ _ _ (Nat.le_refl 0) (Nat.le_refl 0) dX10_unusedPoint_40 ⟨(0 : Int32), rfl, h, hW, hE⟩
      · rw [if_neg c1] at h
        refine wk_iload_n C dX10_unusedPoint_14 rfl rfl ?_
        refine wk_iload C dX10_unusedPoint_15 rfl ?_
        refine wk_callN C hR (y := yX11_has) (host := "Witnessworks") (As := [.int l1I, .int l4I]) (cnt := 2) (tX11_has (l := l) hW  h) rfl (fun w h => ⟨hbX10_unusedPoint_X11_has w h, gdX11_has w h⟩) (by decide +kernel) (List.mem_of_getElem? (i := 2) rfl) (List.mem_of_getElem? (i := 3) rfl) (Nat.le_trans (by decide : 0 + 1 ≤ 1) hd) (by decide) ⟨by decide, by decide, by decide +kernel⟩ rfl rfl (Nat.le_of_ble_eq_true rfl) (Nat.le_refl 0) (Nat.le_refl 0) dX10_unusedPoint_17 (fun v' S3 hp => ?_)
        obtain ⟨v2, rfl, h, hWS3, hXS3⟩ := hp
        refine wk_if_ne C (tgt := 33) dX10_unusedPoint_20 (by decide) (fun c7 => ?_) (fun c7 => ?_)
        · rw [if_neg c7] at h
          obtain ⟨x8, ex8, h⟩ := wkLt_some h
          refine wk_iinc C (lv' := [some (.ref l0A), some (.int l1I), none, some (.int l3I), some (.int x8)]) dX10_unusedPoint_33 rfl (by rw [ex8]; rfl) (by decide) rfl ?_
          refine wk_goto C (tgt := 5) dX10_unusedPoint_36 (by decide) ?_
          exact wk_forget (lv' := [some (.ref l0A), some (.int l1I), none, some (.int l3I), some (.int x8)]) (wkLs.le ⟨rfl, rfl, rfl, rfl, trivial⟩) (ih _ _ _ _ _ hWS3 (wkExt.tr hE hXS3) (hXS3 _ _ hl0A) h)
        · rw [if_pos c7] at h
          refine wk_iload_n C dX10_unusedPoint_23 rfl rfl ?_
          refine wk_if_ne C (tgt := 30) dX10_unusedPoint_24 (by decide) (fun c9 => ?_) (fun c9 => ?_)
          · rw [if_neg c9] at h
            obtain ⟨x10, ex10, h⟩ := wkLt_some h
            refine wk_iinc C (lv' := [some (.ref l0A), some (.int l1I), none, some (.int x10), some (.int l4I)]) dX10_unusedPoint_30 rfl (by rw [ex10]; rfl) (by decide) rfl ?_
            obtain ⟨x11, ex11, h⟩ := wkLt_some h
            refine wk_iinc C (lv' := [some (.ref l0A), some (.int l1I), none, some (.int x10), some (.int x11)]) dX10_unusedPoint_33 rfl (by rw [ex11]; rfl) (by decide) rfl ?_
            refine wk_goto C (tgt := 5) dX10_unusedPoint_36 (by decide) ?_
            exact wk_forget (lv' := [some (.ref l0A), some (.int l1I), none, some (.int x10), some (.int x11)]) (wkLs.le ⟨rfl, rfl, rfl, rfl, trivial⟩) (ih _ _ _ _ _ hWS3 (wkExt.tr hE hXS3) (hXS3 _ _ hl0A) h)
          · rw [if_pos c9] at h
            refine wk_iload C dX10_unusedPoint_27 rfl ?_
            exact E _ _ _ _ _ _ (Nat.le_refl 0) (Nat.le_refl 0) dX10_unusedPoint_29 ⟨l4I, rfl, h, hWS3, (wkExt.tr hE hXS3)⟩
set_option maxHeartbeats 4000000 in
set_option maxRecDepth 100000 in
theorem tX10_unusedPoint {l : Launch} {g : wkG} {F : Nat}  {S : wPS} {l0A : Nat} {l1I : Int32} {l2I : Int32} {Φ : (Int32 → wPS → Prop)} (hW : wkWF S) (hl0A : wkIs S l0A 10) (h : rX10_unusedPoint F l0A l1I l2I S Φ) : wkMet l g yX10_unusedPoint wvX10_unusedPoint 1 0 0 [.ref l0A, .int l1I, .int l2I] S (fun v' S'' => ∃ v : Int32, v' = some (.int v) ∧ Φ v S'' ∧ wkWF S'' ∧ wkExt S S'') := by
  refine wkMet_of (ret := (some .int)) (by decide) rfl (Nat.le_of_ble_eq_true rfl) (fun X hg C hR E => ?_)
  subst hg
  have hE : wkExt S S := wkExt.rf
  have hd : 1 ≤ 1 := Nat.le_refl _
  show wkGo l X 5 0 0 0 S [some (.ref l0A), some (.int l1I), some (.int l2I), none, none] []
  have ih := tX10_unusedPoint_go (F := F) C hR hd E F
  have h : rX10_unusedPoint_s F (rX10_unusedPoint_go F F) l0A l1I l2I S Φ := h
  unfold rX10_unusedPoint_s at h
  refine wk_iload_n C dX10_unusedPoint_0 rfl rfl ?_
  refine wk_istore_n C (lv' := [some (.ref l0A), some (.int l1I), some (.int l2I), some (.int l2I), none]) dX10_unusedPoint_1 rfl (by decide) rfl ?_
  refine wk_iconst C (v := 0) dX10_unusedPoint_2 (by decide) ?_
  refine wk_istore C (lv' := [some (.ref l0A), some (.int l1I), some (.int l2I), some (.int l2I), some (.int (0 : Int32))]) dX10_unusedPoint_3 (by decide) rfl ?_
  exact wk_forget (lv' := [some (.ref l0A), some (.int l1I), none, some (.int l2I), some (.int (0 : Int32))]) (wkLs.le ⟨rfl, rfl, rfl, rfl, trivial⟩) (ih _ _ _ _ _ hW hE hl0A h)
def wvX10_writeItems : List Cond := .code yX10_writeItems cX10_writeItems 6 none :: (([.fieldLink RX10 26 "Witnessworks$Words" "queue" "[I", .fieldLink RX10 32 "Witnessworks$Words" "cameBy" "[I", .fieldLink RX10 29 "Witnessworks$Words" "aheadOf" "[I", .methodLink RX10 115 yX9_add, .instanceMethod yX9_add, .selects RX9 yX9_add yX9_add, .initialized RX9] : List Cond) ++ ((wsX100) ++ (wvX9_add)))
theorem huX10_writeItems_10 : ∀ w ∈ u_ws RX10 TX10 12, w ∈ wvX10_writeItems := fun w h => List.mem_cons_of_mem _ (List.mem_append_right _ (List.mem_append_left _ h))
theorem hbX10_writeItems_X9_add : ∀ w ∈ wvX9_add, w ∈ wvX10_writeItems := fun w h => List.mem_cons_of_mem _ (List.mem_append_right _ (List.mem_append_right _ h))
theorem gdX10_writeItems : ∀ w ∈ wvX10_writeItems, wkGd w := wkGdC rfl (wkGdA (wkGdL (by decide +kernel)) (wkGdA gdX10 gdX9_add))
def rX10_writeItems_b0 (F : Nat) (k n : Nat) (rec : Nat → Nat → Nat → Nat → Nat → Int32 → Int32 → Int32 → wPS → (Unit → wPS → Prop) → Prop) (c s : Nat) (l0A : Nat) (l2A : Nat) (l3I : Int32) (l4I : Int32) (S : wPS) (Φ : (Unit → wPS → Prop)) : Prop :=
  if l4I = 0 then (wkLt ((l3I - (1 : Int32))) fun x2 => rec 1 c s l0A l2A 0 0 x2 S Φ) else (if (720 : Int32) ≤ l3I then (wkLt ((l3I - (1 : Int32))) fun x4 => rec 1 c s l0A l2A 0 0 x4 S Φ) else (¬ (l4I < 0 ∨ S.len (wkAd (gWords_cameBy S l0A)) ≤ (l4I).toNatClampNeg) ∧ ¬ (l3I < 0 ∨ S.len (wkAd (gWords_queue S l0A)) ≤ (l3I).toNatClampNeg) ∧ wkLt (wuI S (wkAd (gWords_queue S l0A)) l3I (S.rI (wkAd (gWords_cameBy S l0A)) (l4I).toNatClampNeg)) fun S7 => wkLt (l3I + (1 : Int32)) fun x8 => ¬ (l4I < 0 ∨ S7.len (wkAd (gWords_aheadOf S7 l0A)) ≤ (l4I).toNatClampNeg) ∧ wkLt ((S7.rI (wkAd (gWords_aheadOf S7 l0A)) (l4I).toNatClampNeg)) fun x10 => rec 0 c s l0A l2A x8 x10 0 S7 Φ))
def rX10_writeItems_b1 (F : Nat) (k n : Nat) (rec : Nat → Nat → Nat → Nat → Nat → Int32 → Int32 → Int32 → wPS → (Unit → wPS → Prop) → Prop) (c s : Nat) (l0A : Nat) (l2A : Nat) (l5I : Int32) (S : wPS) (Φ : (Unit → wPS → Prop)) : Prop :=
  if l5I < 0 then (Φ () S) else (¬ (l5I < 0 ∨ S.len (wkAd (gWords_queue S l0A)) ≤ (l5I).toNatClampNeg) ∧ ∃ k16 n17 : Nat, c + k16 ≤ k ∧ s + n17 ≤ n ∧ rX9_add F k16 n17 l2A (S.rI (wkAd (gWords_queue S l0A)) (l5I).toNatClampNeg) S fun v13 S14 => wkLt (l5I + (-1 : Int32)) fun x18 => rec 1 (c + k16) (s + n17) l0A l2A 0 0 x18 S14 Φ)
def rX10_writeItems_go (F : Nat) (k n : Nat) : Nat → Nat → Nat → Nat → Nat → Nat → Int32 → Int32 → Int32 → wPS → (Unit → wPS → Prop) → Prop
  | 0, _, _, _, _, _, _, _, _, _, _ => False
  | k' + 1, lab, c, s, l0A, l2A, l3I, l4I, l5I, S, Φ => if lab = 0 then rX10_writeItems_b0 F k n (rX10_writeItems_go F k n k') c s l0A l2A l3I l4I S Φ else if lab = 1 then rX10_writeItems_b1 F k n (rX10_writeItems_go F k n k') c s l0A l2A l5I S Φ else False
def rX10_writeItems_s (F : Nat) (k n : Nat) (rec : Nat → Nat → Nat → Nat → Nat → Int32 → Int32 → Int32 → wPS → (Unit → wPS → Prop) → Prop) (l0A : Nat) (l1I : Int32) (l2A : Nat) (S : wPS) (Φ : (Unit → wPS → Prop)) : Prop :=
  rec 0 0 0 l0A l2A (0 : Int32) l1I 0 S Φ
def rX10_writeItems (F : Nat) (k n : Nat) (l0A : Nat) (l1I : Int32) (l2A : Nat) (S : wPS) (Φ : (Unit → wPS → Prop)) : Prop := rX10_writeItems_s F k n (rX10_writeItems_go F k n F) l0A l1I l2A S Φ
set_option maxHeartbeats 4000000 in
set_option maxRecDepth 100000 in
theorem tX10_writeItems_go {k n : Nat} {l : Launch} {X : wkX} {d F : Nat} {S0 : wPS} {Φ : (Unit → wPS → Prop)} (C : wkC X cX10_writeItems RX10 6 wvX10_writeItems) (hR : wkRm X d k n) (hd : 3 ≤ d) (E : wkEnd l X cX10_writeItems 6 none k n (fun v' S'' => ∃ v : Unit, v' = none ∧ Φ v S'' ∧ wkWF S'' ∧ wkExt S0 S'')) : ∀ k' : Nat, (∀ (c s : Nat), c ≤ k → s ≤ n → ∀ (l0A : Nat) (l2A : Nat) (l3I : Int32) (l4I : Int32) (S : wPS), wkWF S → wkExt S0 S → wkIs S l0A 10 → wkIs S l2A 9 → rX10_writeItems_go F k n k' 0 c s l0A l2A l3I l4I 0 S Φ → wkGo l X 6 c s 5 S [some (.ref l0A), none, some (.ref l2A), some (.int l3I), some (.int l4I), none] []) ∧ (∀ (c s : Nat), c ≤ k → s ≤ n → ∀ (l0A : Nat) (l2A : Nat) (l5I : Int32) (S : wPS), wkWF S → wkExt S0 S → wkIs S l0A 10 → wkIs S l2A 9 → rX10_writeItems_go F k n k' 1 c s l0A l2A 0 0 l5I S Φ → wkGo l X 6 c s 50 S [some (.ref l0A), none, some (.ref l2A), none, none, some (.int l5I)] []) := by
  intro k'
  induction k' with
  | zero => exact ⟨fun c s hc hs l0A l2A l3I l4I S hW hE hl0A hl2A h => h.elim, fun c s hc hs l0A l2A l5I S hW hE hl0A hl2A h => h.elim⟩
  | succ k' ih =>
    refine ⟨?_, ?_⟩
    · intro c s hc hs l0A l2A l3I l4I S hW hE hl0A hl2A h
      have h : rX10_writeItems_b0 F k n (rX10_writeItems_go F k n k') c s l0A l2A l3I l4I S Φ := by
        rw [rX10_writeItems_go, if_pos (rfl : (0 : Nat) = 0)] at h
        exact h
      unfold rX10_writeItems_b0 at h
      refine wk_iload C dX10_writeItems_5 rfl ?_
      refine wk_if_eq C (tgt := 45) dX10_writeItems_7 (by decide) (fun c1 => ?_) (fun c1 => ?_)
      · rw [if_pos c1] at h
        refine wk_iload_n C dX10_writeItems_45 rfl rfl ?_
        refine wk_iconst C (v := 1) dX10_writeItems_46 (by decide) ?_
        refine wk_isub C dX10_writeItems_47 rfl ?_
        obtain ⟨x2, ex2, h⟩ := wkLt_some h
        refine wk_topi ex2 ?_
        refine wk_istore C (lv' := [some (.ref l0A), none, some (.ref l2A), some (.int l3I), some (.int l4I), some (.int x2)]) dX10_writeItems_48 (by decide) rfl ?_
        exact wk_forget (lv' := [some (.ref l0A), none, some (.ref l2A), none, none, some (.int x2)]) (wkLs.le ⟨rfl, rfl, rfl, trivial⟩) (ih.2 _ _ hc hs _ _ _ _ hW hE hl0A hl2A h)
      · rw [if_neg c1] at h
        refine wk_iload_n C dX10_writeItems_10 rfl rfl ?_
        refine wk_sipush C (v := 720) dX10_writeItems_11 (by decide) ?_
        refine wk_icmp_ge C (tgt := 45) dX10_writeItems_14 (by decide) (fun c3 => ?_) (fun c3 => ?_)
        · rw [if_pos c3] at h
          refine wk_iload_n C dX10_writeItems_45 rfl rfl ?_
          refine wk_iconst C (v := 1) dX10_writeItems_46 (by decide) ?_
          refine wk_isub C dX10_writeItems_47 rfl ?_
          obtain ⟨x4, ex4, h⟩ := wkLt_some h
          refine wk_topi ex4 ?_
          refine wk_istore C (lv' := [some (.ref l0A), none, some (.ref l2A), some (.int l3I), some (.int l4I), some (.int x4)]) dX10_writeItems_48 (by decide) rfl ?_
          exact wk_forget (lv' := [some (.ref l0A), none, some (.ref l2A), none, none, some (.int x4)]) (wkLs.le ⟨rfl, rfl, rfl, trivial⟩) (ih.2 _ _ hc hs _ _ _ _ hW hE hl0A hl2A h)
        · rw [if_neg c3] at h
          refine wk_aload_n C dX10_writeItems_17 rfl rfl ?_
          refine wk_get C huX10_writeItems_10 hl0A.1 (fun cy => wAt_10 cy _ hl0A.2) rfl 4 (by decide) (List.mem_of_getElem? (i := 1) rfl) rfl (congrArg some (congrArg va_rf (wf_Words_queue hW hl0A).1)) dX10_writeItems_18 ?_
          refine wk_iload_n C dX10_writeItems_21 rfl rfl ?_
          refine wk_aload_n C dX10_writeItems_22 rfl rfl ?_
          refine wk_get C huX10_writeItems_10 hl0A.1 (fun cy => wAt_10 cy _ hl0A.2) rfl 6 (by decide) (List.mem_of_getElem? (i := 2) rfl) rfl (congrArg some (congrArg va_rf (wf_Words_cameBy hW hl0A).1)) dX10_writeItems_23 ?_
          refine wk_iload C dX10_writeItems_26 rfl ?_
          obtain ⟨i5, h⟩ := h
          refine wk_iald C (wf_Words_cameBy hW hl0A).2.1 (wf_Words_cameBy hW hl0A).2.2 i5 rfl dX10_writeItems_28 ?_
          obtain ⟨i6, h⟩ := h
          obtain ⟨S7, eS7, h⟩ := wkLt_some h
          refine wk_iast C (wf_Words_queue hW hl0A).2.1 (wf_Words_queue hW hl0A).2.2 i6 eS7.symm dX10_writeItems_29 ?_
          have hWS7 : wkWF S7 := by rw [eS7]; exact hW
          have hXS7 : wkExt S S7 := by rw [eS7]; exact wkExt.rf
          obtain ⟨x8, ex8, h⟩ := wkLt_some h
          refine wk_iinc C (lv' := [some (.ref l0A), none, some (.ref l2A), some (.int x8), some (.int l4I), none]) dX10_writeItems_30 rfl (by rw [ex8]; rfl) (by decide) rfl ?_
          refine wk_aload_n C dX10_writeItems_33 rfl rfl ?_
          refine wk_get C huX10_writeItems_10 (hXS7 _ _ hl0A).1 (fun cy => wAt_10 cy _ (hXS7 _ _ hl0A).2) rfl 5 (by decide) (List.mem_of_getElem? (i := 3) rfl) rfl (congrArg some (congrArg va_rf (wf_Words_aheadOf hWS7 (hXS7 _ _ hl0A)).1)) dX10_writeItems_34 ?_
          refine wk_iload C dX10_writeItems_37 rfl ?_
          obtain ⟨i9, h⟩ := h
          refine wk_iald C (wf_Words_aheadOf hWS7 (hXS7 _ _ hl0A)).2.1 (wf_Words_aheadOf hWS7 (hXS7 _ _ hl0A)).2.2 i9 rfl dX10_writeItems_39 ?_
          obtain ⟨x10, ex10, h⟩ := wkLt_some h
          refine wk_topi ex10 ?_
          refine wk_istore C (lv' := [some (.ref l0A), none, some (.ref l2A), some (.int x8), some (.int x10), none]) dX10_writeItems_40 (by decide) rfl ?_
          refine wk_goto C (tgt := 5) dX10_writeItems_42 (by decide) ?_
          exact wk_forget (lv' := [some (.ref l0A), none, some (.ref l2A), some (.int x8), some (.int x10), none]) (wkLs.le ⟨rfl, rfl, rfl, rfl, trivial⟩) (ih.1 _ _ hc hs _ _ _ _ _ hWS7 (wkExt.tr hE hXS7) (hXS7 _ _ hl0A) (hXS7 _ _ hl2A) h)
    · intro c s hc hs l0A l2A l5I S hW hE hl0A hl2A h
      have h : rX10_writeItems_b1 F k n (rX10_writeItems_go F k n k') c s l0A l2A l5I S Φ := by
        rw [rX10_writeItems_go, if_neg (show ¬ (1 : Nat) = 0 by decide), if_pos (rfl : (1 : Nat) = 1)] at h
        exact h
      unfold rX10_writeItems_b1 at h
      refine wk_iload C dX10_writeItems_50 rfl ?_
      refine wk_if_lt C (tgt := 72) dX10_writeItems_52 (by decide) (fun c11 => ?_) (fun c11 => ?_)
      · rw [if_pos c11] at h
        exact E _ _ _ _ _ hc hs dX10_writeItems_72 ⟨(), rfl, h, hW, hE⟩
      · rw [if_neg c11] at h
        refine wk_aload_n C dX10_writeItems_55 rfl rfl ?_
        refine wk_aload_n C dX10_writeItems_56 rfl rfl ?_
        refine wk_get C huX10_writeItems_10 hl0A.1 (fun cy => wAt_10 cy _ hl0A.2) rfl 4 (by decide) (List.mem_of_getElem? (i := 1) rfl) rfl (congrArg some (congrArg va_rf (wf_Words_queue hW hl0A).1)) dX10_writeItems_57 ?_
        refine wk_iload C dX10_writeItems_60 rfl ?_
        obtain ⟨i12, h⟩ := h
        refine wk_iald C (wf_Words_queue hW hl0A).2.1 (wf_Words_queue hW hl0A).2.2 i12 rfl dX10_writeItems_62 ?_
        obtain ⟨k16, n17, hk16, hn17, h⟩ := h
        refine wk_callV C hR (As := [.int (S.rI (wkAd (gWords_queue S l0A)) (l5I).toNatClampNeg)]) (cnt := 1) (tX9_add (l := l) hW hl2A h) rfl (wkGoodV (List.mem_of_getElem? (i := 4) rfl) (List.mem_of_getElem? (i := 5) rfl) (List.mem_of_getElem? (i := 6) rfl) (List.mem_of_getElem? (i := 7) rfl) hbX10_writeItems_X9_add gdX9_add) (Nat.le_trans (by decide : 2 + 1 ≤ 3) hd) (by decide) hl2A.1 (fun cy => wAt_9 cy _ hl2A.2) rfl ⟨by decide, by decide, by decide +kernel⟩ rfl rfl (Nat.le_of_ble_eq_true rfl) hk16 hn17 dX10_writeItems_63 (fun v' S14 hp => ?_)
        obtain ⟨v13, rfl, h, hWS14, hXS14⟩ := hp
        obtain ⟨x18, ex18, h⟩ := wkLt_some h
        refine wk_iinc C (lv' := [some (.ref l0A), none, some (.ref l2A), none, none, some (.int x18)]) dX10_writeItems_66 rfl (by rw [ex18]; rfl) (by decide) rfl ?_
        refine wk_goto C (tgt := 50) dX10_writeItems_69 (by decide) ?_
        exact wk_forget (lv' := [some (.ref l0A), none, some (.ref l2A), none, none, some (.int x18)]) (wkLs.le ⟨rfl, rfl, rfl, trivial⟩) (ih.2 _ _ hk16 hn17 _ _ _ _ hWS14 (wkExt.tr hE hXS14) (hXS14 _ _ hl0A) (hXS14 _ _ hl2A) h)
set_option maxHeartbeats 4000000 in
set_option maxRecDepth 100000 in
theorem tX10_writeItems {l : Launch} {g : wkG} {F : Nat} {k n : Nat}  {S : wPS} {l0A : Nat} {l1I : Int32} {l2A : Nat} {Φ : (Unit → wPS → Prop)} (hW : wkWF S) (hl0A : wkIs S l0A 10) (hl2A : wkIs S l2A 9) (h : rX10_writeItems F k n l0A l1I l2A S Φ) : wkMet l g yX10_writeItems wvX10_writeItems 3 k n [.ref l0A, .int l1I, .ref l2A] S (fun v' S'' => ∃ v : Unit, v' = none ∧ Φ v S'' ∧ wkWF S'' ∧ wkExt S S'') := by
  refine wkMet_of (ret := none) (by decide) rfl (Nat.le_of_ble_eq_true rfl) (fun X hg C hR E => ?_)
  subst hg
  have hE : wkExt S S := wkExt.rf
  have hd : 3 ≤ 3 := Nat.le_refl _
  show wkGo l X 6 0 0 0 S [some (.ref l0A), some (.int l1I), some (.ref l2A), none, none, none] []
  have ih := tX10_writeItems_go (F := F) C hR hd E F
  have h : rX10_writeItems_s F k n (rX10_writeItems_go F k n F) l0A l1I l2A S Φ := h
  unfold rX10_writeItems_s at h
  refine wk_iconst C (v := 0) dX10_writeItems_0 (by decide) ?_
  refine wk_istore_n C (lv' := [some (.ref l0A), some (.int l1I), some (.ref l2A), some (.int (0 : Int32)), none, none]) dX10_writeItems_1 rfl (by decide) rfl ?_
  refine wk_iload_n C dX10_writeItems_2 rfl rfl ?_
  refine wk_istore C (lv' := [some (.ref l0A), some (.int l1I), some (.ref l2A), some (.int (0 : Int32)), some (.int l1I), none]) dX10_writeItems_3 (by decide) rfl ?_
  exact wk_forget (lv' := [some (.ref l0A), none, some (.ref l2A), some (.int (0 : Int32)), some (.int l1I), none]) (wkLs.le ⟨rfl, rfl, rfl, rfl, trivial⟩) (ih.1 _ _ (Nat.zero_le _) (Nat.zero_le _) _ _ _ _ _ hW hE hl0A hl2A h)
def wvX10_judgeItems : List Cond := .code yX10_judgeItems cX10_judgeItems 6 (some .int) :: (([.fieldLink RX10 71 "Witnessworks$Words" "size" "I", .fieldLink RX10 128 "Witnessworks$Row" "count" "I", .fieldLink RX10 16 "Witnessworks$Words" "goal" "[I", .fieldLink RX10 13 "Witnessworks$Words" "leads" "[[I", .methodLink RX10 131 yX9_at, .instanceMethod yX9_at, .selects RX9 yX9_at yX9_at, .initialized RX9, .methodLink RX10 94 yX10_loadItems, .instanceMethod yX10_loadItems, .selects RX10 yX10_loadItems yX10_loadItems, .initialized RX10, .fieldLink RX10 84 "Witnessworks$Words" "lastUsed" "I", .methodLink RX10 142 yX9_liesWithin, .instanceMethod yX9_liesWithin, .selects RX9 yX9_liesWithin yX9_liesWithin] : List Cond) ++ ((wsX100 ++ (wsX90)) ++ (wvX9_at ++ (wvX10_loadItems ++ (wvX9_liesWithin)))))
theorem huX10_judgeItems_10 : ∀ w ∈ u_ws RX10 TX10 12, w ∈ wvX10_judgeItems := fun w h => List.mem_cons_of_mem _ (List.mem_append_right _ (List.mem_append_left _ (List.mem_append_left _ h)))
theorem huX10_judgeItems_9 : ∀ w ∈ u_ws RX9 TX9 2, w ∈ wvX10_judgeItems := fun w h => List.mem_cons_of_mem _ (List.mem_append_right _ (List.mem_append_left _ (List.mem_append_right _ h)))
theorem hbX10_judgeItems_X9_at : ∀ w ∈ wvX9_at, w ∈ wvX10_judgeItems := fun w h => List.mem_cons_of_mem _ (List.mem_append_right _ (List.mem_append_right _ (List.mem_append_left _ h)))
theorem hbX10_judgeItems_X10_loadItems : ∀ w ∈ wvX10_loadItems, w ∈ wvX10_judgeItems := fun w h => List.mem_cons_of_mem _ (List.mem_append_right _ (List.mem_append_right _ (List.mem_append_right _ (List.mem_append_left _ h))))
theorem hbX10_judgeItems_X9_liesWithin : ∀ w ∈ wvX9_liesWithin, w ∈ wvX10_judgeItems := fun w h => List.mem_cons_of_mem _ (List.mem_append_right _ (List.mem_append_right _ (List.mem_append_right _ (List.mem_append_right _ h))))
theorem gdX10_judgeItems : ∀ w ∈ wvX10_judgeItems, wkGd w := wkGdC rfl (wkGdA (wkGdL (by decide +kernel)) (wkGdA (wkGdA gdX10 gdX9) (wkGdA gdX9_at (wkGdA gdX10_loadItems gdX9_liesWithin))))
def rX10_judgeItems_b0 (F : Nat) (rec : Nat → Nat → Nat → Int32 → Int32 → Int32 → wPS → (Int32 → wPS → Prop) → Prop) (l0A : Nat) (l2A : Nat) (l3I : Int32) (S : wPS) (Φ : (Int32 → wPS → Prop)) : Prop :=
  if (gWords_size S l0A) ≤ l3I then (Φ (0 : Int32) S) else (rec 1 l0A l2A l3I l3I (0 : Int32) S Φ)
def rX10_judgeItems_b1 (F : Nat) (rec : Nat → Nat → Nat → Int32 → Int32 → Int32 → wPS → (Int32 → wPS → Prop) → Prop) (l0A : Nat) (l2A : Nat) (l3I : Int32) (l4I : Int32) (l5I : Int32) (S : wPS) (Φ : (Int32 → wPS → Prop)) : Prop :=
  if (gRow_count S l2A) ≤ l5I then (¬ (l3I < 0 ∨ S.len (wkAd (gWords_goal S l0A)) ≤ (l3I).toNatClampNeg) ∧ if l4I = (S.rI (wkAd (gWords_goal S l0A)) (l3I).toNatClampNeg) then (wkLt (l3I + (1 : Int32)) fun x5 => rec 0 l0A l2A x5 0 0 S Φ) else (Φ (2 : Int32) S)) else (rX9_at F l2A l5I S fun v6 S7 => ¬ (v6 < 0 ∨ S7.len (wkAd (gWords_leads S l0A)) ≤ (v6).toNatClampNeg) ∧ ¬ (l4I < 0 ∨ S7.len (wkAd (S7.rA (wkAd (gWords_leads S l0A)) (v6).toNatClampNeg)) ≤ (l4I).toNatClampNeg) ∧ wkLt ((S7.rI (wkAd (S7.rA (wkAd (gWords_leads S l0A)) (v6).toNatClampNeg)) (l4I).toNatClampNeg)) fun x14 => wkLt (l5I + (1 : Int32)) fun x15 => rec 1 l0A l2A l3I x14 x15 S7 Φ)
def rX10_judgeItems_go (F : Nat) : Nat → Nat → Nat → Nat → Int32 → Int32 → Int32 → wPS → (Int32 → wPS → Prop) → Prop
  | 0, _, _, _, _, _, _, _, _ => False
  | k' + 1, lab, l0A, l2A, l3I, l4I, l5I, S, Φ => if lab = 0 then rX10_judgeItems_b0 F (rX10_judgeItems_go F k') l0A l2A l3I S Φ else if lab = 1 then rX10_judgeItems_b1 F (rX10_judgeItems_go F k') l0A l2A l3I l4I l5I S Φ else False
def rX10_judgeItems_s (F : Nat) (rec : Nat → Nat → Nat → Int32 → Int32 → Int32 → wPS → (Int32 → wPS → Prop) → Prop) (l0A : Nat) (l1A : Nat) (l2A : Nat) (S : wPS) (Φ : (Int32 → wPS → Prop)) : Prop :=
  rX10_loadItems F l0A l1A S fun v16 S17 => rX9_liesWithin F l2A (0 : Int32) (1 : Int32) (gWords_lastUsed S17 l0A) S17 fun v21 S22 => if v21 = 0 then (Φ (1 : Int32) S22) else (rec 0 l0A l2A (0 : Int32) 0 0 S22 Φ)
def rX10_judgeItems (F : Nat) (l0A : Nat) (l1A : Nat) (l2A : Nat) (S : wPS) (Φ : (Int32 → wPS → Prop)) : Prop := rX10_judgeItems_s F (rX10_judgeItems_go F F) l0A l1A l2A S Φ
set_option maxHeartbeats 4000000 in
set_option maxRecDepth 100000 in
theorem tX10_judgeItems_go {l : Launch} {X : wkX} {d F : Nat} {S0 : wPS} {Φ : (Int32 → wPS → Prop)} (C : wkC X cX10_judgeItems RX10 6 wvX10_judgeItems) (hR : wkRm X d 0 0) (hd : 3 ≤ d) (E : wkEnd l X cX10_judgeItems 6 (some .int) 0 0 (fun v' S'' => ∃ v : Int32, v' = some (.int v) ∧ Φ v S'' ∧ wkWF S'' ∧ wkExt S0 S'')) : ∀ k' : Nat, (∀ (l0A : Nat) (l2A : Nat) (l3I : Int32) (S : wPS), wkWF S → wkExt S0 S → wkIs S l0A 10 → wkIs S l2A 9 → rX10_judgeItems_go F k' 0 l0A l2A l3I 0 0 S Φ → wkGo l X 6 0 0 22 S [some (.ref l0A), none, some (.ref l2A), some (.int l3I), none, none] []) ∧ (∀ (l0A : Nat) (l2A : Nat) (l3I : Int32) (l4I : Int32) (l5I : Int32) (S : wPS), wkWF S → wkExt S0 S → wkIs S l0A 10 → wkIs S l2A 9 → rX10_judgeItems_go F k' 1 l0A l2A l3I l4I l5I S Φ → wkGo l X 6 0 0 36 S [some (.ref l0A), none, some (.ref l2A), some (.int l3I), some (.int l4I), some (.int l5I)] []) := by
  intro k'
  induction k' with
  | zero => exact ⟨fun l0A l2A l3I S hW hE hl0A hl2A h => h.elim, fun l0A l2A l3I l4I l5I S hW hE hl0A hl2A h => h.elim⟩
  | succ k' ih =>
    refine ⟨?_, ?_⟩
    · intro l0A l2A l3I S hW hE hl0A hl2A h
      have h : rX10_judgeItems_b0 F (rX10_judgeItems_go F k') l0A l2A l3I S Φ := by
        rw [rX10_judgeItems_go, if_pos (rfl : (0 : Nat) = 0)] at h
        exact h
      unfold rX10_judgeItems_b0 at h
      refine wk_iload_n C dX10_judgeItems_22 rfl rfl ?_
      refine wk_aload_n C dX10_judgeItems_23 rfl rfl ?_
      refine wk_get C (v := .int (gWords_size S l0A)) huX10_judgeItems_10 hl0A.1 (fun cy => wAt_10 cy _ hl0A.2) rfl 10 (by decide) (List.mem_of_getElem? (i := 1) rfl) rfl rfl dX10_judgeItems_24 ?_
      refine wk_icmp_ge C (tgt := 86) dX10_judgeItems_27 (by decide) (fun c1 => ?_) (fun c1 => ?_)
      · rw [if_pos c1] at h
        refine wk_iconst C (v := 0) dX10_judgeItems_86 (by decide) ?_
        exact E _ _ _ _ _ _ (Nat.le_refl 0) (Nat.le_refl 0) dX10_judgeItems_87 ⟨(0 : Int32), rfl, h, hW, hE⟩
      · rw [if_neg c1] at h
        refine wk_iload_n C dX10_judgeItems_30 rfl rfl ?_
        refine wk_istore C (lv' := [some (.ref l0A), none, some (.ref l2A), some (.int l3I), some (.int l3I), none]) dX10_judgeItems_31 (by decide) rfl ?_
        refine wk_iconst C (v := 0) dX10_judgeItems_33 (by decide) ?_
        refine wk_istore C (lv' := [some (.ref l0A), none, some (.ref l2A), some (.int l3I), some (.int l3I), some (.int (0 : Int32))]) dX10_judgeItems_34 (by decide) rfl ?_
        exact wk_forget (lv' := [some (.ref l0A), none, some (.ref l2A), some (.int l3I), some (.int l3I), some (.int (0 : Int32))]) (wkLs.le ⟨rfl, rfl, rfl, rfl, rfl, trivial⟩) (ih.2 _ _ _ _ _ _ hW hE hl0A hl2A h)
    · intro l0A l2A l3I l4I l5I S hW hE hl0A hl2A h
      have h : rX10_judgeItems_b1 F (rX10_judgeItems_go F k') l0A l2A l3I l4I l5I S Φ := by
        rw [rX10_judgeItems_go, if_neg (show ¬ (1 : Nat) = 0 by decide), if_pos (rfl : (1 : Nat) = 1)] at h
        exact h
      unfold rX10_judgeItems_b1 at h
      refine wk_iload C dX10_judgeItems_36 rfl ?_
      refine wk_aload_n C dX10_judgeItems_38 rfl rfl ?_
      refine wk_get C (v := .int (gRow_count S l2A)) huX10_judgeItems_9 hl2A.1 (fun cy => wAt_9 cy _ hl2A.2) rfl 1 (by decide) (List.mem_of_getElem? (i := 2) rfl) rfl rfl dX10_judgeItems_39 ?_
      refine wk_icmp_ge C (tgt := 67) dX10_judgeItems_42 (by decide) (fun c2 => ?_) (fun c2 => ?_)
      · rw [if_pos c2] at h
        refine wk_iload C dX10_judgeItems_67 rfl ?_
        refine wk_aload_n C dX10_judgeItems_69 rfl rfl ?_
        refine wk_get C huX10_judgeItems_10 hl0A.1 (fun cy => wAt_10 cy _ hl0A.2) rfl 1 (by decide) (List.mem_of_getElem? (i := 3) rfl) rfl (congrArg some (congrArg va_rf (wf_Words_goal hW hl0A).1)) dX10_judgeItems_70 ?_
        refine wk_iload_n C dX10_judgeItems_73 rfl rfl ?_
        obtain ⟨i3, h⟩ := h
        refine wk_iald C (wf_Words_goal hW hl0A).2.1 (wf_Words_goal hW hl0A).2.2 i3 rfl dX10_judgeItems_74 ?_
        refine wk_icmp_eq C (tgt := 80) dX10_judgeItems_75 (by decide) (fun c4 => ?_) (fun c4 => ?_)
        · rw [if_pos c4] at h
          obtain ⟨x5, ex5, h⟩ := wkLt_some h
          refine wk_iinc C (lv' := [some (.ref l0A), none, some (.ref l2A), some (.int x5), some (.int l4I), some (.int l5I)]) dX10_judgeItems_80 rfl (by rw [ex5]; rfl) (by decide) rfl ?_
          refine wk_goto C (tgt := 22) dX10_judgeItems_83 (by decide) ?_
          exact wk_forget (lv' := [some (.ref l0A), none, some (.ref l2A), some (.int x5), none, none]) (wkLs.le ⟨rfl, rfl, rfl, trivial⟩) (ih.1 _ _ _ _ hW hE hl0A hl2A h)
        · rw [if_neg c4] at h
          refine wk_iconst C (v := 2) dX10_judgeItems_78 (by decide) ?_
          exact E _ _ _ _ _ _ (Nat.le_refl 0) (Nat.le_refl 0) dX10_judgeItems_79 ⟨(2 : Int32), rfl, h, hW, hE⟩
      · rw [if_neg c2] at h
        refine wk_aload_n C dX10_judgeItems_45 rfl rfl ?_
        refine wk_get C huX10_judgeItems_10 hl0A.1 (fun cy => wAt_10 cy _ hl0A.2) rfl 0 (by decide) (List.mem_of_getElem? (i := 4) rfl) rfl (congrArg some (congrArg va_rf (wf_Words_leads hW hl0A).1)) dX10_judgeItems_46 ?_
        refine wk_aload_n C dX10_judgeItems_49 rfl rfl ?_
        refine wk_iload C dX10_judgeItems_50 rfl ?_
        refine wk_callV C hR (As := [.int l5I]) (cnt := 1) (tX9_at (l := l) hW hl2A h) rfl (wkGoodV (List.mem_of_getElem? (i := 5) rfl) (List.mem_of_getElem? (i := 6) rfl) (List.mem_of_getElem? (i := 7) rfl) (List.mem_of_getElem? (i := 8) rfl) hbX10_judgeItems_X9_at gdX9_at) (Nat.le_trans (by decide : 0 + 1 ≤ 3) hd) (by decide) hl2A.1 (fun cy => wAt_9 cy _ hl2A.2) rfl ⟨by decide, by decide, by decide +kernel⟩ rfl rfl (Nat.le_of_ble_eq_true rfl) (Nat.le_refl 0) (Nat.le_refl 0) dX10_judgeItems_52 (fun v' S7 hp => ?_)
        obtain ⟨v6, rfl, h, hWS7, hXS7⟩ := hp
        obtain ⟨i11, h⟩ := h
        have w12 := wf_R_I hWS7 (hXS7 _ _ (wf_Words_leads hW hl0A).2) (Nat.not_le.mp fun q => i11 (Or.inr q))
        refine wk_aald_I C (hXS7 _ _ (wf_Words_leads hW hl0A).2).1 (hXS7 _ _ (wf_Words_leads hW hl0A).2).2 i11 w12.1 dX10_judgeItems_55 ?_
        refine wk_iload C dX10_judgeItems_56 rfl ?_
        obtain ⟨i13, h⟩ := h
        refine wk_iald C w12.2.1 w12.2.2 i13 rfl dX10_judgeItems_58 ?_
        obtain ⟨x14, ex14, h⟩ := wkLt_some h
        refine wk_topi ex14 ?_
        refine wk_istore C (lv' := [some (.ref l0A), none, some (.ref l2A), some (.int l3I), some (.int x14), some (.int l5I)]) dX10_judgeItems_59 (by decide) rfl ?_
        obtain ⟨x15, ex15, h⟩ := wkLt_some h
        refine wk_iinc C (lv' := [some (.ref l0A), none, some (.ref l2A), some (.int l3I), some (.int x14), some (.int x15)]) dX10_judgeItems_61 rfl (by rw [ex15]; rfl) (by decide) rfl ?_
        refine wk_goto C (tgt := 36) dX10_judgeItems_64 (by decide) ?_
        exact wk_forget (lv' := [some (.ref l0A), none, some (.ref l2A), some (.int l3I), some (.int x14), some (.int x15)]) (wkLs.le ⟨rfl, rfl, rfl, rfl, rfl, trivial⟩) (ih.2 _ _ _ _ _ _ hWS7 (wkExt.tr hE hXS7) (hXS7 _ _ hl0A) (hXS7 _ _ hl2A) h)
set_option maxHeartbeats 4000000 in
set_option maxRecDepth 100000 in
theorem tX10_judgeItems {l : Launch} {g : wkG} {F : Nat}  {S : wPS} {l0A : Nat} {l1A : Nat} {l2A : Nat} {Φ : (Int32 → wPS → Prop)} (hW : wkWF S) (hl0A : wkIs S l0A 10) (hl1A : wkIs S l1A 3) (hl2A : wkIs S l2A 9) (h : rX10_judgeItems F l0A l1A l2A S Φ) : wkMet l g yX10_judgeItems wvX10_judgeItems 3 0 0 [.ref l0A, .ref l1A, .ref l2A] S (fun v' S'' => ∃ v : Int32, v' = some (.int v) ∧ Φ v S'' ∧ wkWF S'' ∧ wkExt S S'') := by
  refine wkMet_of (ret := (some .int)) (by decide) rfl (Nat.le_of_ble_eq_true rfl) (fun X hg C hR E => ?_)
  subst hg
  have hE : wkExt S S := wkExt.rf
  have hd : 3 ≤ 3 := Nat.le_refl _
  show wkGo l X 6 0 0 0 S [some (.ref l0A), some (.ref l1A), some (.ref l2A), none, none, none] []
  have ih := tX10_judgeItems_go (F := F) C hR hd E F
  have h : rX10_judgeItems_s F (rX10_judgeItems_go F F) l0A l1A l2A S Φ := h
  unfold rX10_judgeItems_s at h
  refine wk_aload_n C dX10_judgeItems_0 rfl rfl ?_
  refine wk_aload_n C dX10_judgeItems_1 rfl rfl ?_
  refine wk_callV C hR (As := [.ref l1A]) (cnt := 1) (tX10_loadItems (l := l) hW hl0A hl1A h) rfl (wkGoodV (List.mem_of_getElem? (i := 9) rfl) (List.mem_of_getElem? (i := 10) rfl) (List.mem_of_getElem? (i := 11) rfl) (List.mem_of_getElem? (i := 12) rfl) hbX10_judgeItems_X10_loadItems gdX10_loadItems) (Nat.le_trans (by decide : 2 + 1 ≤ 3) hd) (by decide) hl0A.1 (fun cy => wAt_10 cy _ hl0A.2) rfl ⟨by decide, by decide, by decide +kernel⟩ rfl rfl (Nat.le_of_ble_eq_true rfl) (Nat.le_refl 0) (Nat.le_refl 0) dX10_judgeItems_2 (fun v' S17 hp => ?_)
  obtain ⟨v16, rfl, h, hWS17, hXS17⟩ := hp
  refine wk_aload_n C dX10_judgeItems_5 rfl rfl ?_
  refine wk_iconst C (v := 0) dX10_judgeItems_6 (by decide) ?_
  refine wk_iconst C (v := 1) dX10_judgeItems_7 (by decide) ?_
  refine wk_aload_n C dX10_judgeItems_8 rfl rfl ?_
  refine wk_get C (v := .int (gWords_lastUsed S17 l0A)) huX10_judgeItems_10 (hXS17 _ _ hl0A).1 (fun cy => wAt_10 cy _ (hXS17 _ _ hl0A).2) rfl 11 (by decide) (List.mem_of_getElem? (i := 13) rfl) rfl rfl dX10_judgeItems_9 ?_
  refine wk_callV C hR (As := [.int (0 : Int32), .int (1 : Int32), .int (gWords_lastUsed S17 l0A)]) (cnt := 3) (tX9_liesWithin (l := l) hWS17 (hXS17 _ _ hl2A) h) rfl (wkGoodV (List.mem_of_getElem? (i := 14) rfl) (List.mem_of_getElem? (i := 15) rfl) (List.mem_of_getElem? (i := 16) rfl) (List.mem_of_getElem? (i := 8) rfl) hbX10_judgeItems_X9_liesWithin gdX9_liesWithin) (Nat.le_trans (by decide : 0 + 1 ≤ 3) hd) (by decide) (hXS17 _ _ hl2A).1 (fun cy => wAt_9 cy _ (hXS17 _ _ hl2A).2) rfl ⟨by decide, by decide, by decide +kernel⟩ rfl rfl (Nat.le_of_ble_eq_true rfl) (Nat.le_refl 0) (Nat.le_refl 0) dX10_judgeItems_12 (fun v' S22 hp => ?_)
  obtain ⟨v21, rfl, h, hWS22, hXS22⟩ := hp
  refine wk_if_ne C (tgt := 20) dX10_judgeItems_15 (by decide) (fun c26 => ?_) (fun c26 => ?_)
  · rw [if_neg c26] at h
    refine wk_iconst C (v := 0) dX10_judgeItems_20 (by decide) ?_
    refine wk_istore_n C (lv' := [some (.ref l0A), some (.ref l1A), some (.ref l2A), some (.int (0 : Int32)), none, none]) dX10_judgeItems_21 rfl (by decide) rfl ?_
    exact wk_forget (lv' := [some (.ref l0A), none, some (.ref l2A), some (.int (0 : Int32)), none, none]) (wkLs.le ⟨rfl, rfl, rfl, trivial⟩) (ih.1 _ _ _ _ hWS22 (wkExt.tr (wkExt.tr hE hXS17) hXS22) (hXS22 _ _ (hXS17 _ _ hl0A)) (hXS22 _ _ (hXS17 _ _ hl2A)) h)
  · rw [if_pos c26] at h
    refine wk_iconst C (v := 1) dX10_judgeItems_18 (by decide) ?_
    exact E _ _ _ _ _ _ (Nat.le_refl 0) (Nat.le_refl 0) dX10_judgeItems_19 ⟨(1 : Int32), rfl, h, hWS22, (wkExt.tr (wkExt.tr hE hXS17) hXS22)⟩
