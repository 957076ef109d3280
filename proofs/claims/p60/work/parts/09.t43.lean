def wvX8_changesAt : List Cond := .code yX8_changesAt cX8_changesAt 7 (some .int) :: (([.fieldLink RX8 173 "Witnessworks$Numbers" "chainCount" "I", .methodLink RX8 215 yX8_senseAt, .instanceMethod yX8_senseAt, .selects RX8 yX8_senseAt yX8_senseAt, .initialized RX8] : List Cond) ++ ((wsX80) ++ (wvX8_senseAt)))
theorem huX8_changesAt_8 : ∀ w ∈ u_ws RX8 TX8 9, w ∈ wvX8_changesAt := fun w h => List.mem_cons_of_mem _ (List.mem_append_right _ (List.mem_append_left _ h))
theorem hbX8_changesAt_X8_senseAt : ∀ w ∈ wvX8_senseAt, w ∈ wvX8_changesAt := fun w h => List.mem_cons_of_mem _ (List.mem_append_right _ (List.mem_append_right _ h))
theorem gdX8_changesAt : ∀ w ∈ wvX8_changesAt, wkGd w := wkGdC rfl (wkGdA (wkGdL (by decide +kernel)) (wkGdA gdX8 gdX8_senseAt))
def rX8_changesAt_b0 (F : Nat) (rec : Nat → Nat → Int32 → Int32 → Int32 → Int32 → Int32 → wPS → (Int32 → wPS → Prop) → Prop) (l0A : Nat) (l1I : Int32) (l2I : Int32) (l3I : Int32) (l4I : Int32) (l5I : Int32) (S : wPS) (Φ : (Int32 → wPS → Prop)) : Prop :=
  if (gNumbers_chainCount S l0A) ≤ l5I then (Φ l3I S) else (rX8_senseAt F l0A l5I l1I l2I S fun v2 S3 => if v2 = 0 then (wkLt (l5I + (1 : Int32)) fun x8 => rec 0 l0A l1I l2I l3I l4I x8 S3 Φ) else (if l4I = 0 then (wkLt ((l3I + (0 : Int32))) fun x10 => wkLt (l5I + (1 : Int32)) fun x11 => rec 0 l0A l1I l2I x10 v2 x11 S3 Φ) else (if v2 = l4I then (wkLt ((l3I + (0 : Int32))) fun x13 => wkLt (l5I + (1 : Int32)) fun x14 => rec 0 l0A l1I l2I x13 v2 x14 S3 Φ) else (wkLt ((l3I + (1 : Int32))) fun x15 => wkLt (l5I + (1 : Int32)) fun x16 => rec 0 l0A l1I l2I x15 v2 x16 S3 Φ))))
def rX8_changesAt_go (F : Nat) : Nat → Nat → Nat → Int32 → Int32 → Int32 → Int32 → Int32 → wPS → (Int32 → wPS → Prop) → Prop
  | 0, _, _, _, _, _, _, _, _, _ => False
  | k' + 1, lab, l0A, l1I, l2I, l3I, l4I, l5I, S, Φ => if lab = 0 then rX8_changesAt_b0 F (rX8_changesAt_go F k') l0A l1I l2I l3I l4I l5I S Φ else False
def rX8_changesAt_s (F : Nat) (rec : Nat → Nat → Int32 → Int32 → Int32 → Int32 → Int32 → wPS → (Int32 → wPS → Prop) → Prop) (l0A : Nat) (l1I : Int32) (l2I : Int32) (S : wPS) (Φ : (Int32 → wPS → Prop)) : Prop :=
  rec 0 l0A l1I l2I (0 : Int32) (0 : Int32) (0 : Int32) S Φ
def rX8_changesAt (F : Nat) (l0A : Nat) (l1I : Int32) (l2I : Int32) (S : wPS) (Φ : (Int32 → wPS → Prop)) : Prop := rX8_changesAt_s F (rX8_changesAt_go F F) l0A l1I l2I S Φ
set_option maxHeartbeats 4000000 in
set_option maxRecDepth 100000 in
theorem tX8_changesAt_go {l : Launch} {X : wkX} {d F : Nat} {S0 : wPS} {Φ : (Int32 → wPS → Prop)} (C : wkC X cX8_changesAt RX8 7 wvX8_changesAt) (hR : wkRm X d 0 0) (hd : 1 ≤ d) (E : wkEnd l X cX8_changesAt 7 (some .int) 0 0 (fun v' S'' => ∃ v : Int32, v' = some (.int v) ∧ Φ v S'' ∧ wkWF S'' ∧ wkExt S0 S'')) : ∀ k' : Nat, (∀ (l0A : Nat) (l1I : Int32) (l2I : Int32) (l3I : Int32) (l4I : Int32) (l5I : Int32) (S : wPS), wkWF S → wkExt S0 S → wkIs S l0A 8 → rX8_changesAt_go F k' 0 l0A l1I l2I l3I l4I l5I S Φ → wkGo l X 7 0 0 8 S [some (.ref l0A), some (.int l1I), some (.int l2I), some (.int l3I), some (.int l4I), some (.int l5I), none] []) := by
  intro k'
  induction k' with
  | zero => exact fun l0A l1I l2I l3I l4I l5I S hW hE hl0A h => h.elim
  | succ k' ih =>
    · intro l0A l1I l2I l3I l4I l5I S hW hE hl0A h
      have h : rX8_changesAt_b0 F (rX8_changesAt_go F k') l0A l1I l2I l3I l4I l5I S Φ := by
        rw [rX8_changesAt_go, if_pos (rfl : (0 : Nat) = 0)] at h
        exact h
      unfold rX8_changesAt_b0 at h
      refine wk_iload C dX8_changesAt_8 rfl ?_
      refine wk_aload_n C dX8_changesAt_10 rfl rfl ?_
      refine wk_get C (v := .int (gNumbers_chainCount S l0A)) huX8_changesAt_8 hl0A.1 (fun cy => wAt_8 cy _ hl0A.2) rfl 8 (by decide) (List.mem_of_getElem? (i := 1) rfl) rfl rfl dX8_changesAt_11 ?_
      refine wk_icmp_ge C (tgt := 62) dX8_changesAt_14 (by decide) (fun c1 => ?_) (fun c1 => ?_)
      · rw [if_pos c1] at h
        refine wk_iload_n C dX8_changesAt_62 rfl rfl ?_
        exact E _ _ _ _ _ _ (Nat.le_refl 0) (Nat.le_refl 0) dX8_changesAt_63 ⟨l3I, rfl, h, hW, hE⟩
      · rw [if_neg c1] at h
        refine wk_aload_n C dX8_changesAt_17 rfl rfl ?_
        refine wk_iload C dX8_changesAt_18 rfl ?_
        refine wk_iload_n C dX8_changesAt_20 rfl rfl ?_
        refine wk_iload_n C dX8_changesAt_21 rfl rfl ?_
        refine wk_callV C hR (As := [.int l5I, .int l1I, .int l2I]) (cnt := 3) (tX8_senseAt (l := l) hW hl0A h) rfl (wkGoodV (List.mem_of_getElem? (i := 2) rfl) (List.mem_of_getElem? (i := 3) rfl) (List.mem_of_getElem? (i := 4) rfl) (List.mem_of_getElem? (i := 5) rfl) hbX8_changesAt_X8_senseAt gdX8_senseAt) (Nat.le_trans (by decide : 0 + 1 ≤ 1) hd) (by decide) hl0A.1 (fun cy => wAt_8 cy _ hl0A.2) rfl ⟨by decide, by decide, by decide +kernel⟩ rfl rfl (Nat.le_of_ble_eq_true rfl) (Nat.le_refl 0) (Nat.le_refl 0) dX8_changesAt_22 (fun v' S3 hp => ?_)
        obtain ⟨v2, rfl, h, hWS3, hXS3⟩ := hp
        refine wk_istore C (lv' := [some (.ref l0A), some (.int l1I), some (.int l2I), some (.int l3I), some (.int l4I), some (.int l5I), some (.int v2)]) dX8_changesAt_25 (by decide) rfl ?_
        refine wk_iload C dX8_changesAt_27 rfl ?_
        refine wk_if_eq C (tgt := 56) dX8_changesAt_29 (by decide) (fun c7 => ?_) (fun c7 => ?_)
        · rw [if_pos c7] at h
          obtain ⟨x8, ex8, h⟩ := wkLt_some h
          refine wk_iinc C (lv' := [some (.ref l0A), some (.int l1I), some (.int l2I), some (.int l3I), some (.int l4I), some (.int x8), some (.int v2)]) dX8_changesAt_56 rfl (by rw [ex8]; rfl) (by decide) rfl ?_
          refine wk_goto C (tgt := 8) dX8_changesAt_59 (by decide) ?_
          exact wk_forget (lv' := [some (.ref l0A), some (.int l1I), some (.int l2I), some (.int l3I), some (.int l4I), some (.int x8), none]) (wkLs.le ⟨rfl, rfl, rfl, rfl, rfl, rfl, trivial⟩) (ih _ _ _ _ _ _ _ hWS3 (wkExt.tr hE hXS3) (hXS3 _ _ hl0A) h)
        · rw [if_neg c7] at h
          refine wk_iload_n C dX8_changesAt_32 rfl rfl ?_
          refine wk_iload C dX8_changesAt_33 rfl ?_
          refine wk_if_eq C (tgt := 49) dX8_changesAt_35 (by decide) (fun c9 => ?_) (fun c9 => ?_)
          · rw [if_pos c9] at h
            refine wk_iconst C (v := 0) dX8_changesAt_49 (by decide) ?_
            refine wk_iadd C dX8_changesAt_50 rfl ?_
            obtain ⟨x10, ex10, h⟩ := wkLt_some h
            refine wk_topi ex10 ?_
            refine wk_istore_n C (lv' := [some (.ref l0A), some (.int l1I), some (.int l2I), some (.int x10), some (.int l4I), some (.int l5I), some (.int v2)]) dX8_changesAt_51 rfl (by decide) rfl ?_
            refine wk_iload C dX8_changesAt_52 rfl ?_
            refine wk_istore C (lv' := [some (.ref l0A), some (.int l1I), some (.int l2I), some (.int x10), some (.int v2), some (.int l5I), some (.int v2)]) dX8_changesAt_54 (by decide) rfl ?_
            obtain ⟨x11, ex11, h⟩ := wkLt_some h
            refine wk_iinc C (lv' := [some (.ref l0A), some (.int l1I), some (.int l2I), some (.int x10), some (.int v2), some (.int x11), some (.int v2)]) dX8_changesAt_56 rfl (by rw [ex11]; rfl) (by decide) rfl ?_
            refine wk_goto C (tgt := 8) dX8_changesAt_59 (by decide) ?_
            exact wk_forget (lv' := [some (.ref l0A), some (.int l1I), some (.int l2I), some (.int x10), some (.int v2), some (.int x11), none]) (wkLs.le ⟨rfl, rfl, rfl, rfl, rfl, rfl, trivial⟩) (ih _ _ _ _ _ _ _ hWS3 (wkExt.tr hE hXS3) (hXS3 _ _ hl0A) h)
          · rw [if_neg c9] at h
            refine wk_iload C dX8_changesAt_38 rfl ?_
            refine wk_iload C dX8_changesAt_40 rfl ?_
            refine wk_icmp_eq C (tgt := 49) dX8_changesAt_42 (by decide) (fun c12 => ?_) (fun c12 => ?_)
            · rw [if_pos c12] at h
              refine wk_iconst C (v := 0) dX8_changesAt_49 (by decide) ?_
              refine wk_iadd C dX8_changesAt_50 rfl ?_
              obtain ⟨x13, ex13, h⟩ := wkLt_some h
              refine wk_topi ex13 ?_
              refine wk_istore_n C (lv' := [some (.ref l0A), some (.int l1I), some (.int l2I), some (.int x13), some (.int l4I), some (.int l5I), some (.int v2)]) dX8_changesAt_51 rfl (by decide) rfl ?_
              refine wk_iload C dX8_changesAt_52 rfl ?_
              refine wk_istore C (lv' := [some (.ref l0A), some (.int l1I), some (.int l2I), some (.int x13), some (.int v2), some (.int l5I), some (.int v2)]) dX8_changesAt_54 (by decide) rfl ?_
              obtain ⟨x14, ex14, h⟩ := wkLt_some h
              refine wk_iinc C (lv' := [some (.ref l0A), some (.int l1I), some (.int l2I), some (.int x13), some (.int v2), some (.int x14), some (.int v2)]) dX8_changesAt_56 rfl (by rw [ex14]; rfl) (by decide) rfl ?_
              refine wk_goto C (tgt := 8) dX8_changesAt_59 (by decide) ?_
              exact wk_forget (lv' := [some (.ref l0A), some (.int l1I), some (.int l2I), some (.int x13), some (.int v2), some (.int x14), none]) (wkLs.le ⟨rfl, rfl, rfl, rfl, rfl, rfl, trivial⟩) (ih _ _ _ _ _ _ _ hWS3 (wkExt.tr hE hXS3) (hXS3 _ _ hl0A) h)
            · rw [if_neg c12] at h
              refine wk_iconst C (v := 1) dX8_changesAt_45 (by decide) ?_
              refine wk_goto C (tgt := 50) dX8_changesAt_46 (by decide) ?_
              refine wk_iadd C dX8_changesAt_50 rfl ?_
              obtain ⟨x15, ex15, h⟩ := wkLt_some h
              refine wk_topi ex15 ?_
              refine wk_istore_n C (lv' := [some (.ref l0A), some (.int l1I), some (.int l2I), some (.int x15), some (.int l4I), some (.int l5I), some (.int v2)]) dX8_changesAt_51 rfl (by decide) rfl ?_
              refine wk_iload C dX8_changesAt_52 rfl ?_
              refine wk_istore C (lv' := [some (.ref l0A), some (.int l1I), some (.int l2I), some (.int x15), some (.int v2), some (.int l5I), some (.int v2)]) dX8_changesAt_54 (by decide) rfl ?_
              obtain ⟨x16, ex16, h⟩ := wkLt_some h
              refine wk_iinc C (lv' := [some (.ref l0A), some (.int l1I), some (.int l2I), some (.int x15), some (.int v2), some (.int x16), some (.int v2)]) dX8_changesAt_56 rfl (by rw [ex16]; rfl) (by decide) rfl ?_
              refine wk_goto C (tgt := 8) dX8_changesAt_59 (by decide) ?_
              exact wk_forget (lv' := [some (.ref l0A), some (.int l1I), some (.int l2I), some (.int x15), some (.int v2), some (.int x16), none]) (wkLs.le ⟨rfl, rfl, rfl, rfl, rfl, rfl, trivial⟩) (ih _ _ _ _ _ _ _ hWS3 (wkExt.tr hE hXS3) (hXS3 _ _ hl0A) h)
set_option maxHeartbeats 4000000 in
set_option maxRecDepth 100000 in
theorem tX8_changesAt {l : Launch} {g : wkG} {F : Nat}  {S : wPS} {l0A : Nat} {l1I : Int32} {l2I : Int32} {Φ : (Int32 → wPS → Prop)} (hW : wkWF S) (hl0A : wkIs S l0A 8) (h : rX8_changesAt F l0A l1I l2I S Φ) : wkMet l g yX8_changesAt wvX8_changesAt 1 0 0 [.ref l0A, .int l1I, .int l2I] S (fun v' S'' => ∃ v : Int32, v' = some (.int v) ∧ Φ v S'' ∧ wkWF S'' ∧ wkExt S S'') := by
  refine wkMet_of (ret := (some .int)) (by decide) rfl (Nat.le_of_ble_eq_true rfl) (fun X hg C hR E => ?_)
  subst hg
  have hE : wkExt S S := wkExt.rf
  have hd : 1 ≤ 1 := Nat.le_refl _
  show wkGo l X 7 0 0 0 S [some (.ref l0A), some (.int l1I), some (.int l2I), none, none, none, none] []
  have ih := tX8_changesAt_go (F := F) C hR hd E F
  have h : rX8_changesAt_s F (rX8_changesAt_go F F) l0A l1I l2I S Φ := h
  unfold rX8_changesAt_s at h
  refine wk_iconst C (v := 0) dX8_changesAt_0 (by decide) ?_
  refine wk_istore_n C (lv' := [some (.ref l0A), some (.int l1I), some (.int l2I), some (.int (0 : Int32)), none, none, none]) dX8_changesAt_1 rfl (by decide) rfl ?_
  refine wk_iconst C (v := 0) dX8_changesAt_2 (by decide) ?_
  refine wk_istore C (lv' := [some (.ref l0A), some (.int l1I), some (.int l2I), some (.int (0 : Int32)), some (.int (0 : Int32)), none, none]) dX8_changesAt_3 (by decide) rfl ?_
  refine wk_iconst C (v := 0) dX8_changesAt_5 (by decide) ?_
  refine wk_istore C (lv' := [some (.ref l0A), some (.int l1I), some (.int l2I), some (.int (0 : Int32)), some (.int (0 : Int32)), some (.int (0 : Int32)), none]) dX8_changesAt_6 (by decide) rfl ?_
  exact wk_forget (lv' := [some (.ref l0A), some (.int l1I), some (.int l2I), some (.int (0 : Int32)), some (.int (0 : Int32)), some (.int (0 : Int32)), none]) (wkLs.le ⟨rfl, rfl, rfl, rfl, rfl, rfl, trivial⟩) (ih _ _ _ _ _ _ _ hW hE hl0A h)
def wvX8_areParts : List Cond := .code yX8_areParts cX8_areParts 4 (some .boolean) :: (([.fieldLink RX8 135 "Witnessworks$Row" "count" "I", .methodLink RX8 67 yX9_at, .instanceMethod yX9_at, .selects RX9 yX9_at yX9_at, .initialized RX9] : List Cond) ++ ((wsX90) ++ (wvX9_at)))
theorem huX8_areParts_9 : ∀ w ∈ u_ws RX9 TX9 2, w ∈ wvX8_areParts := fun w h => List.mem_cons_of_mem _ (List.mem_append_right _ (List.mem_append_left _ h))
theorem hbX8_areParts_X9_at : ∀ w ∈ wvX9_at, w ∈ wvX8_areParts := fun w h => List.mem_cons_of_mem _ (List.mem_append_right _ (List.mem_append_right _ h))
theorem gdX8_areParts : ∀ w ∈ wvX8_areParts, wkGd w := wkGdC rfl (wkGdA (wkGdL (by decide +kernel)) (wkGdA gdX9 gdX9_at))
def rX8_areParts_b0 (F : Nat) (rec : Nat → Nat → Int32 → wPS → (Int32 → wPS → Prop) → Prop) (l0A : Nat) (l1I : Int32) (S : wPS) (Φ : (Int32 → wPS → Prop)) : Prop :=
  if (gRow_count S l0A) ≤ l1I then (Φ (1 : Int32) S) else (rX9_at F l0A l1I S fun v2 S3 => rX9_at F l0A (l1I + (1 : Int32)) S3 fun v7 S8 => if v2 < 0 then (Φ (0 : Int32) S8) else (if (16 : Int32) < v2 then (Φ (0 : Int32) S8) else (if v7 < 0 then (Φ (0 : Int32) S8) else (if v7 < ((1 : Int32) <<< (v2 &&& 31)) then (wkLt (l1I + (2 : Int32)) fun x16 => rec 0 l0A x16 S8 Φ) else (Φ (0 : Int32) S8)))))
def rX8_areParts_go (F : Nat) : Nat → Nat → Nat → Int32 → wPS → (Int32 → wPS → Prop) → Prop
  | 0, _, _, _, _, _ => False
  | k' + 1, lab, l0A, l1I, S, Φ => if lab = 0 then rX8_areParts_b0 F (rX8_areParts_go F k') l0A l1I S Φ else False
def rX8_areParts_s (F : Nat) (rec : Nat → Nat → Int32 → wPS → (Int32 → wPS → Prop) → Prop) (l0A : Nat) (S : wPS) (Φ : (Int32 → wPS → Prop)) : Prop :=
  rec 0 l0A (0 : Int32) S Φ
def rX8_areParts (F : Nat) (l0A : Nat) (S : wPS) (Φ : (Int32 → wPS → Prop)) : Prop := rX8_areParts_s F (rX8_areParts_go F F) l0A S Φ
set_option maxHeartbeats 4000000 in
set_option maxRecDepth 100000 in
theorem tX8_areParts_go {l : Launch} {X : wkX} {d F : Nat} {S0 : wPS} {Φ : (Int32 → wPS → Prop)} (C : wkC X cX8_areParts RX8 4 wvX8_areParts) (hR : wkRm X d 0 0) (hd : 1 ≤ d) (E : wkEnd l X cX8_areParts 4 (some .boolean) 0 0 (fun v' S'' => ∃ v : Int32, v' = some (.int v) ∧ Φ v S'' ∧ wkWF S'' ∧ wkExt S0 S'')) : ∀ k' : Nat, (∀ (l0A : Nat) (l1I : Int32) (S : wPS), wkWF S → wkExt S0 S → wkIs S l0A 9 → rX8_areParts_go F k' 0 l0A l1I S Φ → wkGo l X 4 0 0 2 S [some (.ref l0A), some (.int l1I), none, none] []) := by
  intro k'
  induction k' with
  | zero => exact fun l0A l1I S hW hE hl0A h => h.elim
  | succ k' ih =>
    · intro l0A l1I S hW hE hl0A h
      have h : rX8_areParts_b0 F (rX8_areParts_go F k') l0A l1I S Φ := by
        rw [rX8_areParts_go, if_pos (rfl : (0 : Nat) = 0)] at h
        exact h
      unfold rX8_areParts_b0 at h
      refine wk_iload_n C dX8_areParts_2 rfl rfl ?_
      refine wk_aload_n C dX8_areParts_3 rfl rfl ?_
      refine wk_get C (v := .int (gRow_count S l0A)) huX8_areParts_9 hl0A.1 (fun cy => wAt_9 cy _ hl0A.2) rfl 1 (by decide) (List.mem_of_getElem? (i := 1) rfl) rfl rfl dX8_areParts_4 ?_
      refine wk_icmp_ge C (tgt := 53) dX8_areParts_7 (by decide) (fun c1 => ?_) (fun c1 => ?_)
      · rw [if_pos c1] at h
        refine wk_iconst C (v := 1) dX8_areParts_53 (by decide) ?_
        exact E _ _ _ _ _ _ (Nat.le_refl 0) (Nat.le_refl 0) dX8_areParts_54 rfl ⟨(1 : Int32), rfl, h, hW, hE⟩
      · rw [if_neg c1] at h
        refine wk_aload_n C dX8_areParts_10 rfl rfl ?_
        refine wk_iload_n C dX8_areParts_11 rfl rfl ?_
        refine wk_callV C hR (As := [.int l1I]) (cnt := 1) (tX9_at (l := l) hW hl0A h) rfl (wkGoodV (List.mem_of_getElem? (i := 2) rfl) (List.mem_of_getElem? (i := 3) rfl) (List.mem_of_getElem? (i := 4) rfl) (List.mem_of_getElem? (i := 5) rfl) hbX8_areParts_X9_at gdX9_at) (Nat.le_trans (by decide : 0 + 1 ≤ 1) hd) (by decide) hl0A.1 (fun cy => wAt_9 cy _ hl0A.2) rfl ⟨by decide, by decide, by decide +kernel⟩ rfl rfl (Nat.le_of_ble_eq_true rfl) (Nat.le_refl 0) (Nat.le_refl 0) dX8_areParts_12 (fun v' S3 hp => ?_)
        obtain ⟨v2, rfl, h, hWS3, hXS3⟩ := hp
        refine wk_istore_n C (lv' := [some (.ref l0A), some (.int l1I), some (.int v2), none]) dX8_areParts_15 rfl (by decide) rfl ?_
        refine wk_aload_n C dX8_areParts_16 rfl rfl ?_
        refine wk_iload_n C dX8_areParts_17 rfl rfl ?_
        refine wk_iconst C (v := 1) dX8_areParts_18 (by decide) ?_
        refine wk_iadd C dX8_areParts_19 rfl ?_
        refine wk_callV C hR (As := [.int (l1I + (1 : Int32))]) (cnt := 1) (tX9_at (l := l) hWS3 (hXS3 _ _ hl0A) h) rfl (wkGoodV (List.mem_of_getElem? (i := 2) rfl) (List.mem_of_getElem? (i := 3) rfl) (List.mem_of_getElem? (i := 4) rfl) (List.mem_of_getElem? (i := 5) rfl) hbX8_areParts_X9_at gdX9_at) (Nat.le_trans (by decide : 0 + 1 ≤ 1) hd) (by decide) (hXS3 _ _ hl0A).1 (fun cy => wAt_9 cy _ (hXS3 _ _ hl0A).2) rfl ⟨by decide, by decide, by decide +kernel⟩ rfl rfl (Nat.le_of_ble_eq_true rfl) (Nat.le_refl 0) (Nat.le_refl 0) dX8_areParts_20 (fun v' S8 hp => ?_)
        obtain ⟨v7, rfl, h, hWS8, hXS8⟩ := hp
        refine wk_istore_n C (lv' := [some (.ref l0A), some (.int l1I), some (.int v2), some (.int v7)]) dX8_areParts_23 rfl (by decide) rfl ?_
        refine wk_iload_n C dX8_areParts_24 rfl rfl ?_
        refine wk_if_lt C (tgt := 45) dX8_areParts_25 (by decide) (fun c12 => ?_) (fun c12 => ?_)
        · rw [if_pos c12] at h
          refine wk_iconst C (v := 0) dX8_areParts_45 (by decide) ?_
          exact E _ _ _ _ _ _ (Nat.le_refl 0) (Nat.le_refl 0) dX8_areParts_46 rfl ⟨(0 : Int32), rfl, h, hWS8, (wkExt.tr (wkExt.tr hE hXS3) hXS8)⟩
        · rw [if_neg c12] at h
          refine wk_iload_n C dX8_areParts_28 rfl rfl ?_
          refine wk_bipush C (v := 16) dX8_areParts_29 (by decide) ?_
          refine wk_icmp_gt C (tgt := 45) dX8_areParts_31 (by decide) (fun c13 => ?_) (fun c13 => ?_)
          · rw [if_pos c13] at h
            refine wk_iconst C (v := 0) dX8_areParts_45 (by decide) ?_
            exact E _ _ _ _ _ _ (Nat.le_refl 0) (Nat.le_refl 0) dX8_areParts_46 rfl ⟨(0 : Int32), rfl, h, hWS8, (wkExt.tr (wkExt.tr hE hXS3) hXS8)⟩
          · rw [if_neg c13] at h
            refine wk_iload_n C dX8_areParts_34 rfl rfl ?_
            refine wk_if_lt C (tgt := 45) dX8_areParts_35 (by decide) (fun c14 => ?_) (fun c14 => ?_)
            · rw [if_pos c14] at h
              refine wk_iconst C (v := 0) dX8_areParts_45 (by decide) ?_
              exact E _ _ _ _ _ _ (Nat.le_refl 0) (Nat.le_refl 0) dX8_areParts_46 rfl ⟨(0 : Int32), rfl, h, hWS8, (wkExt.tr (wkExt.tr hE hXS3) hXS8)⟩
            · rw [if_neg c14] at h
              refine wk_iload_n C dX8_areParts_38 rfl rfl ?_
              refine wk_iconst C (v := 1) dX8_areParts_39 (by decide) ?_
              refine wk_iload_n C dX8_areParts_40 rfl rfl ?_
              refine wk_ishl C dX8_areParts_41 rfl ?_
              refine wk_icmp_lt C (tgt := 47) dX8_areParts_42 (by decide) (fun c15 => ?_) (fun c15 => ?_)
              · rw [if_pos c15] at h
                obtain ⟨x16, ex16, h⟩ := wkLt_some h
                refine wk_iinc C (lv' := [some (.ref l0A), some (.int x16), some (.int v2), some (.int v7)]) dX8_areParts_47 rfl (by rw [ex16]; rfl) (by decide) rfl ?_
                refine wk_goto C (tgt := 2) dX8_areParts_50 (by decide) ?_
                exact wk_forget (lv' := [some (.ref l0A), some (.int x16), none, none]) (wkLs.le ⟨rfl, rfl, trivial⟩) (ih _ _ _ hWS8 (wkExt.tr (wkExt.tr hE hXS3) hXS8) (hXS8 _ _ (hXS3 _ _ hl0A)) h)
              · rw [if_neg c15] at h
                refine wk_iconst C (v := 0) dX8_areParts_45 (by decide) ?_
                exact E _ _ _ _ _ _ (Nat.le_refl 0) (Nat.le_refl 0) dX8_areParts_46 rfl ⟨(0 : Int32), rfl, h, hWS8, (wkExt.tr (wkExt.tr hE hXS3) hXS8)⟩
set_option maxHeartbeats 4000000 in
set_option maxRecDepth 100000 in
theorem tX8_areParts {l : Launch} {g : wkG} {F : Nat}  {S : wPS} {l0A : Nat} {Φ : (Int32 → wPS → Prop)} (hW : wkWF S) (hl0A : wkIs S l0A 9) (h : rX8_areParts F l0A S Φ) : wkMet l g yX8_areParts wvX8_areParts 1 0 0 [.ref l0A] S (fun v' S'' => ∃ v : Int32, v' = some (.int v) ∧ Φ v S'' ∧ wkWF S'' ∧ wkExt S S'') := by
  refine wkMet_of (ret := (some .boolean)) (by decide) rfl (Nat.le_of_ble_eq_true rfl) (fun X hg C hR E => ?_)
  subst hg
  have hE : wkExt S S := wkExt.rf
  have hd : 1 ≤ 1 := Nat.le_refl _
  show wkGo l X 4 0 0 0 S [some (.ref l0A), none, none, none] []
  have ih := tX8_areParts_go (F := F) C hR hd E F
  have h : rX8_areParts_s F (rX8_areParts_go F F) l0A S Φ := h
  unfold rX8_areParts_s at h
  refine wk_iconst C (v := 0) dX8_areParts_0 (by decide) ?_
  refine wk_istore_n C (lv' := [some (.ref l0A), some (.int (0 : Int32)), none, none]) dX8_areParts_1 rfl (by decide) rfl ?_
  exact wk_forget (lv' := [some (.ref l0A), some (.int (0 : Int32)), none, none]) (wkLs.le ⟨rfl, rfl, trivial⟩) (ih _ _ _ hW hE hl0A h)
def wvX8_areOrdered : List Cond := .code yX8_areOrdered cX8_areOrdered 6 (some .boolean) :: (([.fieldLink RX8 135 "Witnessworks$Row" "count" "I", .methodLink RX8 67 yX9_at, .instanceMethod yX9_at, .selects RX9 yX9_at yX9_at, .initialized RX9] : List Cond) ++ ((wsX90) ++ (wvX9_at)))
theorem huX8_areOrdered_9 : ∀ w ∈ u_ws RX9 TX9 2, w ∈ wvX8_areOrdered := fun w h => List.mem_cons_of_mem _ (List.mem_append_right _ (List.mem_append_left _ h))
theorem hbX8_areOrdered_X9_at : ∀ w ∈ wvX9_at, w ∈ wvX8_areOrdered := fun w h => List.mem_cons_of_mem _ (List.mem_append_right _ (List.mem_append_right _ h))
theorem gdX8_areOrdered : ∀ w ∈ wvX8_areOrdered, wkGd w := wkGdC rfl (wkGdA (wkGdL (by decide +kernel)) (wkGdA gdX9 gdX9_at))
def rX8_areOrdered_b0 (F : Nat) (rec : Nat → Nat → Int32 → wPS → (Int32 → wPS → Prop) → Prop) (l0A : Nat) (l1I : Int32) (S : wPS) (Φ : (Int32 → wPS → Prop)) : Prop :=
  if (gRow_count S l0A) ≤ l1I then (Φ (1 : Int32) S) else (rX9_at F l0A (l1I - (1 : Int32)) S fun v2 S3 => rX9_at F l0A l1I S3 fun v7 S8 => wkLt ((((Int32.toInt64 v2) + (1 : Int64)) <<< ((v7).toInt64 &&& 63))) fun x12 => rX9_at F l0A (l1I + (1 : Int32)) S8 fun v13 S14 => rX9_at F l0A (l1I - (2 : Int32)) S14 fun v18 S19 => wkLt (((Int32.toInt64 v13) <<< ((v18).toInt64 &&& 63))) fun x23 => if 0 ≤ (lg_cmp x23 x12) then (wkLt (l1I + (2 : Int32)) fun x25 => rec 0 l0A x25 S19 Φ) else (Φ (0 : Int32) S19))
def rX8_areOrdered_go (F : Nat) : Nat → Nat → Nat → Int32 → wPS → (Int32 → wPS → Prop) → Prop
  | 0, _, _, _, _, _ => False
  | k' + 1, lab, l0A, l1I, S, Φ => if lab = 0 then rX8_areOrdered_b0 F (rX8_areOrdered_go F k') l0A l1I S Φ else False
def rX8_areOrdered_s (F : Nat) (rec : Nat → Nat → Int32 → wPS → (Int32 → wPS → Prop) → Prop) (l0A : Nat) (S : wPS) (Φ : (Int32 → wPS → Prop)) : Prop :=
  rec 0 l0A (2 : Int32) S Φ
def rX8_areOrdered (F : Nat) (l0A : Nat) (S : wPS) (Φ : (Int32 → wPS → Prop)) : Prop := rX8_areOrdered_s F (rX8_areOrdered_go F F) l0A S Φ
set_option maxHeartbeats 4000000 in
set_option maxRecDepth 100000 in
theorem tX8_areOrdered_go {l : Launch} {X : wkX} {d F : Nat} {S0 : wPS} {Φ : (Int32 → wPS → Prop)} (C : wkC X cX8_areOrdered RX8 6 wvX8_areOrdered) (hR : wkRm X d 0 0) (hd : 1 ≤ d) (E : wkEnd l X cX8_areOrdered 6 (some .boolean) 0 0 (fun v' S'' => ∃ v : Int32, v' = some (.int v) ∧ Φ v S'' ∧ wkWF S'' ∧ wkExt S0 S'')) : ∀ k' : Nat, (∀ (l0A : Nat) (l1I : Int32) (S : wPS), wkWF S → wkExt S0 S → wkIs S l0A 9 → rX8_areOrdered_go F k' 0 l0A l1I S Φ → wkGo l X 6 0 0 2 S [some (.ref l0A), some (.int l1I), none, none, none, none] []) := by
  intro k'
  induction k' with
  | zero => exact fun l0A l1I S hW hE hl0A h => h.elim
  | succ k' ih =>
    · intro l0A l1I S hW hE hl0A h
      have h : rX8_areOrdered_b0 F (rX8_areOrdered_go F k') l0A l1I S Φ := by
        rw [rX8_areOrdered_go, if_pos (rfl : (0 : Nat) = 0)] at h
        exact h
      unfold rX8_areOrdered_b0 at h
      refine wk_iload_n C dX8_areOrdered_2 rfl rfl ?_
      refine wk_aload_n C dX8_areOrdered_3 rfl rfl ?_
      refine wk_get C (v := .int (gRow_count S l0A)) huX8_areOrdered_9 hl0A.1 (fun cy => wAt_9 cy _ hl0A.2) rfl 1 (by decide) (List.mem_of_getElem? (i := 1) rfl) rfl rfl dX8_areOrdered_4 ?_
      refine wk_icmp_ge C (tgt := 60) dX8_areOrdered_7 (by decide) (fun c1 => ?_) (fun c1 => ?_)
      · rw [if_pos c1] at h
        refine wk_iconst C (v := 1) dX8_areOrdered_60 (by decide) ?_
        exact E _ _ _ _ _ _ (Nat.le_refl 0) (Nat.le_refl 0) dX8_areOrdered_61 rfl ⟨(1 : Int32), rfl, h, hW, hE⟩
      · rw [if_neg c1] at h
        refine wk_aload_n C dX8_areOrdered_10 rfl rfl ?_
        refine wk_iload_n C dX8_areOrdered_11 rfl rfl ?_
        refine wk_iconst C (v := 1) dX8_areOrdered_12 (by decide) ?_
        refine wk_isub C dX8_areOrdered_13 rfl ?_
        refine wk_callV C hR (As := [.int (l1I - (1 : Int32))]) (cnt := 1) (tX9_at (l := l) hW hl0A h) rfl (wkGoodV (List.mem_of_getElem? (i := 2) rfl) (List.mem_of_getElem? (i := 3) rfl) (List.mem_of_getElem? (i := 4) rfl) (List.mem_of_getElem? (i := 5) rfl) hbX8_areOrdered_X9_at gdX9_at) (Nat.le_trans (by decide : 0 + 1 ≤ 1) hd) (by decide) hl0A.1 (fun cy => wAt_9 cy _ hl0A.2) rfl ⟨by decide, by decide, by decide +kernel⟩ rfl rfl (Nat.le_of_ble_eq_true rfl) (Nat.le_refl 0) (Nat.le_refl 0) dX8_areOrdered_14 (fun v' S3 hp => ?_)
        obtain ⟨v2, rfl, h, hWS3, hXS3⟩ := hp
        refine wk_i2l C dX8_areOrdered_17 rfl ?_
        refine wk_lconst C (v := 1) dX8_areOrdered_18 (by decide) ?_
        refine wk_ladd C dX8_areOrdered_19 rfl ?_
        refine wk_aload_n C dX8_areOrdered_20 rfl rfl ?_
        refine wk_iload_n C dX8_areOrdered_21 rfl rfl ?_
        refine wk_callV C hR (As := [.int l1I]) (cnt := 1) (tX9_at (l := l) hWS3 (hXS3 _ _ hl0A) h) rfl (wkGoodV (List.mem_of_getElem? (i := 2) rfl) (List.mem_of_getElem? (i := 3) rfl) (List.mem_of_getElem? (i := 4) rfl) (List.mem_of_getElem? (i := 5) rfl) hbX8_areOrdered_X9_at gdX9_at) (Nat.le_trans (by decide : 0 + 1 ≤ 1) hd) (by decide) (hXS3 _ _ hl0A).1 (fun cy => wAt_9 cy _ (hXS3 _ _ hl0A).2) rfl ⟨by decide, by decide, by decide +kernel⟩ rfl rfl (Nat.le_of_ble_eq_true rfl) (Nat.le_refl 0) (Nat.le_refl 0) dX8_areOrdered_22 (fun v' S8 hp => ?_)
        obtain ⟨v7, rfl, h, hWS8, hXS8⟩ := hp
        refine wk_lshl C dX8_areOrdered_25 rfl ?_
        obtain ⟨x12, ex12, h⟩ := wkLt_some h
        refine wk_topl ex12 ?_
        refine wk_lstore_n C (lv' := [some (.ref l0A), some (.int l1I), some (.long x12), none, none, none]) dX8_areOrdered_26 rfl (by decide) rfl ?_
        refine wk_aload_n C dX8_areOrdered_27 rfl rfl ?_
        refine wk_iload_n C dX8_areOrdered_28 rfl rfl ?_
        refine wk_iconst C (v := 1) dX8_areOrdered_29 (by decide) ?_
        refine wk_iadd C dX8_areOrdered_30 rfl ?_
        refine wk_callV C hR (As := [.int (l1I + (1 : Int32))]) (cnt := 1) (tX9_at (l := l) hWS8 (hXS8 _ _ (hXS3 _ _ hl0A)) h) rfl (wkGoodV (List.mem_of_getElem? (i := 2) rfl) (List.mem_of_getElem? (i := 3) rfl) (List.mem_of_getElem? (i := 4) rfl) (List.mem_of_getElem? (i := 5) rfl) hbX8_areOrdered_X9_at gdX9_at) (Nat.le_trans (by decide : 0 + 1 ≤ 1) hd) (by decide) (hXS8 _ _ (hXS3 _ _ hl0A)).1 (fun cy => wAt_9 cy _ (hXS8 _ _ (hXS3 _ _ hl0A)).2) rfl ⟨by decide, by decide, by decide +kernel⟩ rfl rfl (Nat.le_of_ble_eq_true rfl) (Nat.le_refl 0) (Nat.le_refl 0) dX8_areOrdered_31 (fun v' S14 hp => ?_)
        obtain ⟨v13, rfl, h, hWS14, hXS14⟩ := hp
        refine wk_i2l C dX8_areOrdered_34 rfl ?_
        refine wk_aload_n C dX8_areOrdered_35 rfl rfl ?_
        refine wk_iload_n C dX8_areOrdered_36 rfl rfl ?_
        refine wk_iconst C (v := 2) dX8_areOrdered_37 (by decide) ?_
        refine wk_isub C dX8_areOrdered_38 rfl ?_
        refine wk_callV C hR (As := [.int (l1I - (2 : Int32))]) (cnt := 1) (tX9_at (l := l) hWS14 (hXS14 _ _ (hXS8 _ _ (hXS3 _ _ hl0A))) h) rfl (wkGoodV (List.mem_of_getElem? (i := 2) rfl) (List.mem_of_getElem? (i := 3) rfl) (List.mem_of_getElem? (i := 4) rfl) (List.mem_of_getElem? (i := 5) rfl) hbX8_areOrdered_X9_at gdX9_at) (Nat.le_trans (by decide : 0 + 1 ≤ 1) hd) (by decide) (hXS14 _ _ (hXS8 _ _ (hXS3 _ _ hl0A))).1 (fun cy => wAt_9 cy _ (hXS14 _ _ (hXS8 _ _ (hXS3 _ _ hl0A))).2) rfl ⟨by decide, by decide, by decide +kernel⟩ rfl rfl (Nat.le_of_ble_eq_true rfl) (Nat.le_refl 0) (Nat.le_refl 0) dX8_areOrdered_39 (fun v' S19 hp => ?_)
        obtain ⟨v18, rfl, h, hWS19, hXS19⟩ := hp
        refine wk_lshl C dX8_areOrdered_42 rfl ?_
        obtain ⟨x23, ex23, h⟩ := wkLt_some h
        refine wk_topl ex23 ?_
        refine wk_lstore C (lv' := [some (.ref l0A), some (.int l1I), some (.long x12), none, some (.long x23), none]) dX8_areOrdered_43 (by decide) rfl ?_
        refine wk_lload C dX8_areOrdered_45 rfl ?_
        refine wk_lload_n C dX8_areOrdered_47 rfl rfl ?_
        refine wk_lcmp C dX8_areOrdered_48 rfl ?_
        refine wk_if_ge C (tgt := 54) dX8_areOrdered_49 (by decide) (fun c24 => ?_) (fun c24 => ?_)
        · rw [if_pos c24] at h
          obtain ⟨x25, ex25, h⟩ := wkLt_some h
          refine wk_iinc C (lv' := [some (.ref l0A), some (.int x25), some (.long x12), none, some (.long x23), none]) dX8_areOrdered_54 rfl (by rw [ex25]; rfl) (by decide) rfl ?_
          refine wk_goto C (tgt := 2) dX8_areOrdered_57 (by decide) ?_
          exact wk_forget (lv' := [some (.ref l0A), some (.int x25), none, none, none, none]) (wkLs.le ⟨rfl, rfl, trivial⟩) (ih _ _ _ hWS19 (wkExt.tr (wkExt.tr (wkExt.tr (wkExt.tr hE hXS3) hXS8) hXS14) hXS19) (hXS19 _ _ (hXS14 _ _ (hXS8 _ _ (hXS3 _ _ hl0A)))) h)
        · rw [if_neg c24] at h
          refine wk_iconst C (v := 0) dX8_areOrdered_52 (by decide) ?_
          exact E _ _ _ _ _ _ (Nat.le_refl 0) (Nat.le_refl 0) dX8_areOrdered_53 rfl ⟨(0 : Int32), rfl, h, hWS19, (wkExt.tr (wkExt.tr (wkExt.tr (wkExt.tr hE hXS3) hXS8) hXS14) hXS19)⟩
set_option maxHeartbeats 4000000 in
set_option maxRecDepth 100000 in
theorem tX8_areOrdered {l : Launch} {g : wkG} {F : Nat}  {S : wPS} {l0A : Nat} {Φ : (Int32 → wPS → Prop)} (hW : wkWF S) (hl0A : wkIs S l0A 9) (h : rX8_areOrdered F l0A S Φ) : wkMet l g yX8_areOrdered wvX8_areOrdered 1 0 0 [.ref l0A] S (fun v' S'' => ∃ v : Int32, v' = some (.int v) ∧ Φ v S'' ∧ wkWF S'' ∧ wkExt S S'') := by
  refine wkMet_of (ret := (some .boolean)) (by decide) rfl (Nat.le_of_ble_eq_true rfl) (fun X hg C hR E => ?_)
  subst hg
  have hE : wkExt S S := wkExt.rf
  have hd : 1 ≤ 1 := Nat.le_refl _
  show wkGo l X 6 0 0 0 S [some (.ref l0A), none, none, none, none, none] []
  have ih := tX8_areOrdered_go (F := F) C hR hd E F
  have h : rX8_areOrdered_s F (rX8_areOrdered_go F F) l0A S Φ := h
  unfold rX8_areOrdered_s at h
  refine wk_iconst C (v := 2) dX8_areOrdered_0 (by decide) ?_
  refine wk_istore_n C (lv' := [some (.ref l0A), some (.int (2 : Int32)), none, none, none, none]) dX8_areOrdered_1 rfl (by decide) rfl ?_
  exact wk_forget (lv' := [some (.ref l0A), some (.int (2 : Int32)), none, none, none, none]) (wkLs.le ⟨rfl, rfl, trivial⟩) (ih _ _ _ hW hE hl0A h)
