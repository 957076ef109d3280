def wvX4_leftSide : List Cond := .code yX4_leftSide cX4_leftSide 6 (some .int) :: (([.fieldLink RX4 191 "Witnessworks$Entry" "size" "I", .static yX11_has, .initialized RX11, .methodLink RX4 262 yX4_neighboursOf, .instanceMethod yX4_neighboursOf, .selects RX4 yX4_neighboursOf yX4_neighboursOf, .initialized RX4, .fieldLink RX4 60 "Witnessworks$House" "near" "[I", .methodLink RX4 258 yX3_fillNear, .instanceMethod yX3_fillNear, .selects RX3 yX3_fillNear yX3_fillNear, .initialized RX3] : List Cond) ++ ((wsX30 ++ (wsX40)) ++ (wvX11_has ++ (wvX4_neighboursOf ++ (wvX3_fillNear)))))
theorem huX4_leftSide_3 : ∀ w ∈ u_ws RX3 TX3 17, w ∈ wvX4_leftSide := fun w h => List.mem_cons_of_mem _ (List.mem_append_right _ (List.mem_append_left _ (List.mem_append_left _ h)))
theorem huX4_leftSide_4 : ∀ w ∈ u_ws RX4 TX4 8, w ∈ wvX4_leftSide := fun w h => List.mem_cons_of_mem _ (List.mem_append_right _ (List.mem_append_left _ (List.mem_append_right _ h)))
theorem hbX4_leftSide_X11_has : ∀ w ∈ wvX11_has, w ∈ wvX4_leftSide := fun w h => List.mem_cons_of_mem _ (List.mem_append_right _ (List.mem_append_right _ (List.mem_append_left _ h)))
theorem hbX4_leftSide_X4_neighboursOf : ∀ w ∈ wvX4_neighboursOf, w ∈ wvX4_leftSide := fun w h => List.mem_cons_of_mem _ (List.mem_append_right _ (List.mem_append_right _ (List.mem_append_right _ (List.mem_append_left _ h))))
theorem hbX4_leftSide_X3_fillNear : ∀ w ∈ wvX3_fillNear, w ∈ wvX4_leftSide := fun w h => List.mem_cons_of_mem _ (List.mem_append_right _ (List.mem_append_right _ (List.mem_append_right _ (List.mem_append_right _ h))))
theorem gdX4_leftSide : ∀ w ∈ wvX4_leftSide, wkGd w := wkGdC rfl (wkGdA (wkGdL (by decide +kernel)) (wkGdA (wkGdA gdX3 gdX4) (wkGdA gdX11_has (wkGdA gdX4_neighboursOf gdX3_fillNear))))
def rX4_leftSide_b0 (F : Nat) (rec : Nat → Nat → Nat → Int32 → Int32 → Int32 → Int32 → wPS → (Int32 → wPS → Prop) → Prop) (l0A : Nat) (l1A : Nat) (l2I : Int32) (l3I : Int32) (l4I : Int32) (S : wPS) (Φ : (Int32 → wPS → Prop)) : Prop :=
  if (gEntry_size S l1A) ≤ l4I then (if (l2I &&& l3I) = 0 then (Φ l2I S) else (Φ (-1 : Int32) S)) else (rX11_has F (l2I ||| l3I) l4I S fun v3 S4 => if v3 = 0 then (wkLt ((l2I ||| ((1 : Int32) <<< (l4I &&& 31)))) fun x9 => rec 1 l0A l1A x9 l3I l4I (0 : Int32) S4 Φ) else (rec 1 l0A l1A l2I l3I l4I (0 : Int32) S4 Φ))
def rX4_leftSide_b1 (F : Nat) (rec : Nat → Nat → Nat → Int32 → Int32 → Int32 → Int32 → wPS → (Int32 → wPS → Prop) → Prop) (l0A : Nat) (l1A : Nat) (l2I : Int32) (l3I : Int32) (l4I : Int32) (l5I : Int32) (S : wPS) (Φ : (Int32 → wPS → Prop)) : Prop :=
  if (gEntry_size S l1A) ≤ l5I then (wkLt (l4I + (1 : Int32)) fun x11 => rec 0 l0A l1A l2I l3I x11 0 S Φ) else (rX4_neighboursOf F l0A l2I S fun v12 S13 => wkLt ((l3I ||| v12)) fun x17 => rX4_neighboursOf F l0A x17 S13 fun v18 S19 => wkLt ((l2I ||| v18)) fun x23 => wkLt (l5I + (1 : Int32)) fun x24 => rec 1 l0A l1A x23 x17 l4I x24 S19 Φ)
def rX4_leftSide_go (F : Nat) : Nat → Nat → Nat → Nat → Int32 → Int32 → Int32 → Int32 → wPS → (Int32 → wPS → Prop) → Prop
  | 0, _, _, _, _, _, _, _, _, _ => False
  | k' + 1, lab, l0A, l1A, l2I, l3I, l4I, l5I, S, Φ => if lab = 0 then rX4_leftSide_b0 F (rX4_leftSide_go F k') l0A l1A l2I l3I l4I S Φ else if lab = 1 then rX4_leftSide_b1 F (rX4_leftSide_go F k') l0A l1A l2I l3I l4I l5I S Φ else False
def rX4_leftSide_s (F : Nat) (rec : Nat → Nat → Nat → Int32 → Int32 → Int32 → Int32 → wPS → (Int32 → wPS → Prop) → Prop) (l0A : Nat) (l1A : Nat) (S : wPS) (Φ : (Int32 → wPS → Prop)) : Prop :=
  rX3_fillNear F l1A (wkAd (gHouse_near S l0A)) (-1 : Int32) S fun v25 S26 => rec 0 l0A l1A (0 : Int32) (0 : Int32) (0 : Int32) 0 S26 Φ
def rX4_leftSide (F : Nat) (l0A : Nat) (l1A : Nat) (S : wPS) (Φ : (Int32 → wPS → Prop)) : Prop := rX4_leftSide_s F (rX4_leftSide_go F F) l0A l1A S Φ
set_option maxHeartbeats 4000000 in
set_option maxRecDepth 100000 in
theorem tX4_leftSide_go {l : Launch} {X : wkX} {d F : Nat} {S0 : wPS} {Φ : (Int32 → wPS → Prop)} (C : wkC X cX4_leftSide RX4 6 wvX4_leftSide) (hR : wkRm X d 0 0) (hd : 2 ≤ d) (E : wkEnd l X cX4_leftSide 6 (some .int) 0 0 (fun v' S'' => ∃ v : Int32, v' = some (.int v) ∧ Φ v S'' ∧ wkWF S'' ∧ wkExt S0 S'')) : ∀ k' : Nat, (∀ (l0A : Nat) (l1A : Nat) (l2I : Int32) (l3I : Int32) (l4I : Int32) (S : wPS), wkWF S → wkExt S0 S → wkIs S l0A 4 → wkIs S l1A 3 → rX4_leftSide_go F k' 0 l0A l1A l2I l3I l4I 0 S Φ → wkGo l X 6 0 0 16 S [some (.ref l0A), some (.ref l1A), some (.int l2I), some (.int l3I), some (.int l4I), none] []) ∧ (∀ (l0A : Nat) (l1A : Nat) (l2I : Int32) (l3I : Int32) (l4I : Int32) (l5I : Int32) (S : wPS), wkWF S → wkExt S0 S → wkIs S l0A 4 → wkIs S l1A 3 → rX4_leftSide_go F k' 1 l0A l1A l2I l3I l4I l5I S Φ → wkGo l X 6 0 0 46 S [some (.ref l0A), some (.ref l1A), some (.int l2I), some (.int l3I), some (.int l4I), some (.int l5I)] []) := by
  intro k'
  induction k' with
  | zero => exact ⟨fun l0A l1A l2I l3I l4I S hW hE hl0A hl1A h => h.elim, fun l0A l1A l2I l3I l4I l5I S hW hE hl0A hl1A h => h.elim⟩
  | succ k' ih =>
    refine ⟨?_, ?_⟩
    · intro l0A l1A l2I l3I l4I S hW hE hl0A hl1A h
      have h : rX4_leftSide_b0 F (rX4_leftSide_go F k') l0A l1A l2I l3I l4I S Φ := by
        rw [rX4_leftSide_go, if_pos (rfl : (0 : Nat) = 0)] at h
        exact h
      unfold rX4_leftSide_b0 at h
      refine wk_iload C dX4_leftSide_16 rfl ?_
      refine wk_aload_n C dX4_leftSide_18 rfl rfl ?_
      refine wk_get C (v := .int (gEntry_size S l1A)) huX4_leftSide_3 hl1A.1 (fun cy => wAt_3 cy _ hl1A.2) rfl 1 (by decide) (List.mem_of_getElem? (i := 1) rfl) rfl rfl dX4_leftSide_19 ?_
      refine wk_icmp_ge C (tgt := 83) dX4_leftSide_22 (by decide) (fun c1 => ?_) (fun c1 => ?_)
      · rw [if_pos c1] at h
        refine wk_iload_n C dX4_leftSide_83 rfl rfl ?_
        refine wk_iload_n C dX4_leftSide_84 rfl rfl ?_
        refine wk_iand C dX4_leftSide_85 rfl ?_
        refine wk_if_ne C (tgt := 93) dX4_leftSide_86 (by decide) (fun c2 => ?_) (fun c2 => ?_)
        · rw [if_neg c2] at h
          refine wk_iconst C (v := (-1)) dX4_leftSide_93 (by decide) ?_
          exact E _ _ _ _ _ _ (Nat.le_refl 0) (Nat.le_refl 0) dX4_leftSide_94 ⟨(-1 : Int32), rfl, h, hW, hE⟩
        · rw [if_pos c2] at h
          refine wk_iload_n C dX4_leftSide_89 rfl rfl ?_
          refine wk_goto C (tgt := 94) dX4_leftSide_90 (by decide) ?_
          exact E _ _ _ _ _ _ (Nat.le_refl 0) (Nat.le_refl 0) dX4_leftSide_94 ⟨l2I, rfl, h, hW, hE⟩
      · rw [if_neg c1] at h
        refine wk_iload_n C dX4_leftSide_25 rfl rfl ?_
        refine wk_iload_n C dX4_leftSide_26 rfl rfl ?_
        refine wk_ior C dX4_leftSide_27 rfl ?_
        refine wk_iload C dX4_leftSide_28 rfl ?_
        refine wk_callN C hR (y := yX11_has) (host := "Witnessworks") (As := [.int (l2I ||| l3I), .int l4I]) (cnt := 2) (tX11_has (l := l) hW  h) rfl (fun w h => ⟨hbX4_leftSide_X11_has w h, gdX11_has w h⟩) (by decide +kernel) (List.mem_of_getElem? (i := 2) rfl) (List.mem_of_getElem? (i := 3) rfl) (Nat.le_trans (by decide : 0 + 1 ≤ 2) hd) (by decide) ⟨by decide, by decide, by decide +kernel⟩ rfl rfl (Nat.le_of_ble_eq_true rfl) (Nat.le_refl 0) (Nat.le_refl 0) dX4_leftSide_30 (fun v' S4 hp => ?_)
        obtain ⟨v3, rfl, h, hWS4, hXS4⟩ := hp
        refine wk_if_ne C (tgt := 43) dX4_leftSide_33 (by decide) (fun c8 => ?_) (fun c8 => ?_)
        · rw [if_neg c8] at h
          refine wk_iconst C (v := 0) dX4_leftSide_43 (by decide) ?_
          refine wk_istore C (lv' := [some (.ref l0A), some (.ref l1A), some (.int l2I), some (.int l3I), some (.int l4I), some (.int (0 : Int32))]) dX4_leftSide_44 (by decide) rfl ?_
          exact wk_forget (lv' := [some (.ref l0A), some (.ref l1A), some (.int l2I), some (.int l3I), some (.int l4I), some (.int (0 : Int32))]) (wkLs.le ⟨rfl, rfl, rfl, rfl, rfl, rfl, trivial⟩) (ih.2 _ _ _ _ _ _ _ hWS4 (wkExt.tr hE hXS4) (hXS4 _ _ hl0A) (hXS4 _ _ hl1A) h)
        · rw [if_pos c8] at h
          refine wk_iload_n C dX4_leftSide_36 rfl rfl ?_
          refine wk_iconst C (v := 1) dX4_leftSide_37 (by decide) ?_
          refine wk_iload C dX4_leftSide_38 rfl ?_
          refine wk_ishl C dX4_leftSide_40 rfl ?_
          refine wk_ior C dX4_leftSide_41 rfl ?_
          obtain ⟨x9, ex9, h⟩ := wkLt_some h
          refine wk_topi ex9 ?_
          refine wk_istore_n C (lv' := [some (.ref l0A), some (.ref l1A), some (.int x9), some (.int l3I), some (.int l4I), none]) dX4_leftSide_42 rfl (by decide) rfl ?_
          refine wk_iconst C (v := 0) dX4_leftSide_43 (by decide) ?_
          refine wk_istore C (lv' := [some (.ref l0A), some (.ref l1A), some (.int x9), some (.int l3I), some (.int l4I), some (.int (0 : Int32))]) dX4_leftSide_44 (by decide) rfl ?_
          exact wk_forget (lv' := [some (.ref l0A), some (.ref l1A), some (.int x9), some (.int l3I), some (.int l4I), some (.int (0 : Int32))]) (wkLs.le ⟨rfl, rfl, rfl, rfl, rfl, rfl, trivial⟩) (ih.2 _ _ _ _ _ _ _ hWS4 (wkExt.tr hE hXS4) (hXS4 _ _ hl0A) (hXS4 _ _ hl1A) h)
    · intro l0A l1A l2I l3I l4I l5I S hW hE hl0A hl1A h
      have h : rX4_leftSide_b1 F (rX4_leftSide_go F k') l0A l1A l2I l3I l4I l5I S Φ := by
        rw [rX4_leftSide_go, if_neg (show ¬ (1 : Nat) = 0 by decide), if_pos (rfl : (1 : Nat) = 1)] at h
        exact h
      unfold rX4_leftSide_b1 at h
      refine wk_iload C dX4_leftSide_46 rfl ?_
      refine wk_aload_n C dX4_leftSide_48 rfl rfl ?_
      refine wk_get C (v := .int (gEntry_size S l1A)) huX4_leftSide_3 hl1A.1 (fun cy => wAt_3 cy _ hl1A.2) rfl 1 (by decide) (List.mem_of_getElem? (i := 1) rfl) rfl rfl dX4_leftSide_49 ?_
      refine wk_icmp_ge C (tgt := 77) dX4_leftSide_52 (by decide) (fun c10 => ?_) (fun c10 => ?_)
      · rw [if_pos c10] at h
        obtain ⟨x11, ex11, h⟩ := wkLt_some h
        refine wk_iinc C (lv' := [some (.ref l0A), some (.ref l1A), some (.int l2I), some (.int l3I), some (.int x11), some (.int l5I)]) dX4_leftSide_77 rfl (by rw [ex11]; rfl) (by decide) rfl ?_
        refine wk_goto C (tgt := 16) dX4_leftSide_80 (by decide) ?_
        exact wk_forget (lv' := [some (.ref l0A), some (.ref l1A), some (.int l2I), some (.int l3I), some (.int x11), none]) (wkLs.le ⟨rfl, rfl, rfl, rfl, rfl, trivial⟩) (ih.1 _ _ _ _ _ _ hW hE hl0A hl1A h)
      · rw [if_neg c10] at h
        refine wk_iload_n C dX4_leftSide_55 rfl rfl ?_
        refine wk_aload_n C dX4_leftSide_56 rfl rfl ?_
        refine wk_iload_n C dX4_leftSide_57 rfl rfl ?_
        refine wk_callV C hR (As := [.int l2I]) (cnt := 1) (tX4_neighboursOf (l := l) hW hl0A h) rfl (wkGoodV (List.mem_of_getElem? (i := 4) rfl) (List.mem_of_getElem? (i := 5) rfl) (List.mem_of_getElem? (i := 6) rfl) (List.mem_of_getElem? (i := 7) rfl) hbX4_leftSide_X4_neighboursOf gdX4_neighboursOf) (Nat.le_trans (by decide : 1 + 1 ≤ 2) hd) (by decide) hl0A.1 (fun cy => wAt_4 cy _ hl0A.2) rfl ⟨by decide, by decide, by decide +kernel⟩ rfl rfl (Nat.le_of_ble_eq_true rfl) (Nat.le_refl 0) (Nat.le_refl 0) dX4_leftSide_58 (fun v' S13 hp => ?_)
        obtain ⟨v12, rfl, h, hWS13, hXS13⟩ := hp
        refine wk_ior C dX4_leftSide_61 rfl ?_
        obtain ⟨x17, ex17, h⟩ := wkLt_some h
        refine wk_topi ex17 ?_
        refine wk_istore_n C (lv' := [some (.ref l0A), some (.ref l1A), some (.int l2I), some (.int x17), some (.int l4I), some (.int l5I)]) dX4_leftSide_62 rfl (by decide) rfl ?_
        refine wk_iload_n C dX4_leftSide_63 rfl rfl ?_
        refine wk_aload_n C dX4_leftSide_64 rfl rfl ?_
        refine wk_iload_n C dX4_leftSide_65 rfl rfl ?_
        refine wk_callV C hR (As := [.int x17]) (cnt := 1) (tX4_neighboursOf (l := l) hWS13 (hXS13 _ _ hl0A) h) rfl (wkGoodV (List.mem_of_getElem? (i := 4) rfl) (List.mem_of_getElem? (i := 5) rfl) (List.mem_of_getElem? (i := 6) rfl) (List.mem_of_getElem? (i := 7) rfl) hbX4_leftSide_X4_neighboursOf gdX4_neighboursOf) (Nat.le_trans (by decide : 1 + 1 ≤ 2) hd) (by decide) (hXS13 _ _ hl0A).1 (fun cy => wAt_4 cy _ (hXS13 _ _ hl0A).2) rfl ⟨by decide, by decide, by decide +kernel⟩ rfl rfl (Nat.le_of_ble_eq_true rfl) (Nat.le_refl 0) (Nat.le_refl 0) dX4_leftSide_66 (fun v' S19 hp => ?_)
        obtain ⟨v18, rfl, h, hWS19, hXS19⟩ := hp
        refine wk_ior C dX4_leftSide_69 rfl ?_
        obtain ⟨x23, ex23, h⟩ := wkLt_some h
        refine wk_topi ex23 ?_
        refine wk_istore_n C (lv' := [some (.ref l0A), some (.ref l1A), some (.int x23), some (.int x17), some (.int l4I), some (.int l5I)]) dX4_leftSide_70 rfl (by decide) rfl ?_
        obtain ⟨x24, ex24, h⟩ := wkLt_some h
        refine wk_iinc C (lv' := [some (.ref l0A), some (.ref l1A), some (.int x23), some (.int x17), some (.int l4I), some (.int x24)]) dX4_leftSide_71 rfl (by rw [ex24]; rfl) (by decide) rfl ?_
        refine wk_goto C (tgt := 46) dX4_leftSide_74 (by decide) ?_
        exact wk_forget (lv' := [some (.ref l0A), some (.ref l1A), some (.int x23), some (.int x17), some (.int l4I), some (.int x24)]) (wkLs.le ⟨rfl, rfl, rfl, rfl, rfl, rfl, trivial⟩) (ih.2 _ _ _ _ _ _ _ hWS19 (wkExt.tr (wkExt.tr hE hXS13) hXS19) (hXS19 _ _ (hXS13 _ _ hl0A)) (hXS19 _ _ (hXS13 _ _ hl1A)) h)
set_option maxHeartbeats 4000000 in
set_option maxRecDepth 100000 in
theorem tX4_leftSide {l : Launch} {g : wkG} {F : Nat}  {S : wPS} {l0A : Nat} {l1A : Nat} {Φ : (Int32 → wPS → Prop)} (hW : wkWF S) (hl0A : wkIs S l0A 4) (hl1A : wkIs S l1A 3) (h : rX4_leftSide F l0A l1A S Φ) : wkMet l g yX4_leftSide wvX4_leftSide 2 0 0 [.ref l0A, .ref l1A] S (fun v' S'' => ∃ v : Int32, v' = some (.int v) ∧ Φ v S'' ∧ wkWF S'' ∧ wkExt S S'') := by
  refine wkMet_of (ret := (some .int)) (by decide) rfl (Nat.le_of_ble_eq_true rfl) (fun X hg C hR E => ?_)
  subst hg
  have hE : wkExt S S := wkExt.rf
  have hd : 2 ≤ 2 := Nat.le_refl _
  show wkGo l X 6 0 0 0 S [some (.ref l0A), some (.ref l1A), none, none, none, none] []
  have ih := tX4_leftSide_go (F := F) C hR hd E F
  have h : rX4_leftSide_s F (rX4_leftSide_go F F) l0A l1A S Φ := h
  unfold rX4_leftSide_s at h
  refine wk_aload_n C dX4_leftSide_0 rfl rfl ?_
  refine wk_aload_n C dX4_leftSide_1 rfl rfl ?_
  refine wk_get C huX4_leftSide_4 hl0A.1 (fun cy => wAt_4 cy _ hl0A.2) rfl 7 (by decide) (List.mem_of_getElem? (i := 8) rfl) rfl (congrArg some (congrArg va_rf (wf_House_near hW hl0A).1)) dX4_leftSide_2 ?_
  refine wk_iconst C (v := (-1)) dX4_leftSide_5 (by decide) ?_
  refine wk_callV C hR (As := [.ref (wkAd (gHouse_near S l0A)), .int (-1 : Int32)]) (cnt := 2) (tX3_fillNear (l := l) hW hl1A (wf_House_near hW hl0A).2 h) rfl (wkGoodV (List.mem_of_getElem? (i := 9) rfl) (List.mem_of_getElem? (i := 10) rfl) (List.mem_of_getElem? (i := 11) rfl) (List.mem_of_getElem? (i := 12) rfl) hbX4_leftSide_X3_fillNear gdX3_fillNear) (Nat.le_trans (by decide : 1 + 1 ≤ 2) hd) (by decide) hl1A.1 (fun cy => wAt_3 cy _ hl1A.2) rfl ⟨by decide, by decide, by decide +kernel⟩ rfl rfl (Nat.le_of_ble_eq_true rfl) (Nat.le_refl 0) (Nat.le_refl 0) dX4_leftSide_6 (fun v' S26 hp => ?_)
  obtain ⟨v25, rfl, h, hWS26, hXS26⟩ := hp
  refine wk_iconst C (v := 0) dX4_leftSide_9 (by decide) ?_
  refine wk_istore_n C (lv' := [some (.ref l0A), some (.ref l1A), some (.int (0 : Int32)), none, none, none]) dX4_leftSide_10 rfl (by decide) rfl ?_
  refine wk_iconst C (v := 0) dX4_leftSide_11 (by decide) ?_
  refine wk_istore_n C (lv' := [some (.ref l0A), some (.ref l1A), some (.int (0 : Int32)), some (.int (0 : Int32)), none, none]) dX4_leftSide_12 rfl (by decide) rfl ?_
  refine wk_iconst C (v := 0) dX4_leftSide_13 (by decide) ?_
  refine wk_istore C (lv' := [some (.ref l0A), some (.ref l1A), some (.int (0 : Int32)), some (.int (0 : Int32)), some (.int (0 : Int32)), none]) dX4_leftSide_14 (by decide) rfl ?_
  exact wk_forget (lv' := [some (.ref l0A), some (.ref l1A), some (.int (0 : Int32)), some (.int (0 : Int32)), some (.int (0 : Int32)), none]) (wkLs.le ⟨rfl, rfl, rfl, rfl, rfl, trivial⟩) (ih.1 _ _ _ _ _ _ hWS26 (wkExt.tr hE hXS26) (hXS26 _ _ hl0A) (hXS26 _ _ hl1A) h)
def wvX4_bringPairs : List Cond := .code yX4_bringPairs cX4_bringPairs 5 none :: (([.fieldLink RX4 191 "Witnessworks$Entry" "size" "I", .methodLink RX4 289 yX9_add, .instanceMethod yX9_add, .selects RX9 yX9_add yX9_add, .initialized RX9, .fieldLink RX4 219 "Witnessworks$Entry" "itemCount" "I", .methodLink RX4 284 yX9_at, .instanceMethod yX9_at, .selects RX9 yX9_at yX9_at, .methodLink RX4 222 yX3_at, .instanceMethod yX3_at, .selects RX3 yX3_at yX3_at, .initialized RX3, .methodLink RX4 301 yX9_set, .instanceMethod yX9_set, .selects RX9 yX9_set yX9_set] : List Cond) ++ ((wsX30) ++ (wvX9_add ++ (wvX9_at ++ (wvX3_at ++ (wvX9_set))))))
theorem huX4_bringPairs_3 : ∀ w ∈ u_ws RX3 TX3 17, w ∈ wvX4_bringPairs := fun w h => List.mem_cons_of_mem _ (List.mem_append_right _ (List.mem_append_left _ h))
theorem hbX4_bringPairs_X9_add : ∀ w ∈ wvX9_add, w ∈ wvX4_bringPairs := fun w h => List.mem_cons_of_mem _ (List.mem_append_right _ (List.mem_append_right _ (List.mem_append_left _ h)))
theorem hbX4_bringPairs_X9_at : ∀ w ∈ wvX9_at, w ∈ wvX4_bringPairs := fun w h => List.mem_cons_of_mem _ (List.mem_append_right _ (List.mem_append_right _ (List.mem_append_right _ (List.mem_append_left _ h))))
theorem hbX4_bringPairs_X3_at : ∀ w ∈ wvX3_at, w ∈ wvX4_bringPairs := fun w h => List.mem_cons_of_mem _ (List.mem_append_right _ (List.mem_append_right _ (List.mem_append_right _ (List.mem_append_right _ (List.mem_append_left _ h)))))
theorem hbX4_bringPairs_X9_set : ∀ w ∈ wvX9_set, w ∈ wvX4_bringPairs := fun w h => List.mem_cons_of_mem _ (List.mem_append_right _ (List.mem_append_right _ (List.mem_append_right _ (List.mem_append_right _ (List.mem_append_right _ h)))))
theorem gdX4_bringPairs : ∀ w ∈ wvX4_bringPairs, wkGd w := wkGdC rfl (wkGdA (wkGdL (by decide +kernel)) (wkGdA gdX3 (wkGdA gdX9_add (wkGdA gdX9_at (wkGdA gdX3_at gdX9_set)))))
def rX4_bringPairs_b0 (F : Nat) (k n : Nat) (rec : Nat → Nat → Nat → Nat → Int32 → Nat → Nat → Int32 → wPS → (Unit → wPS → Prop) → Prop) (c s : Nat) (l0A : Nat) (l1I : Int32) (l2A : Nat) (l3A : Nat) (l4I : Int32) (S : wPS) (Φ : (Unit → wPS → Prop)) : Prop :=
  if (gEntry_size S l2A) ≤ l4I then (rec 1 c s l0A l1I l2A l3A (0 : Int32) S Φ) else (∃ k5 n6 : Nat, c + k5 ≤ k ∧ s + n6 ≤ n ∧ rX9_add F k5 n6 l3A l4I S fun v2 S3 => wkLt (l4I + (1 : Int32)) fun x7 => rec 0 (c + k5) (s + n6) l0A l1I l2A l3A x7 S3 Φ)
def rX4_bringPairs_b1 (F : Nat) (k n : Nat) (rec : Nat → Nat → Nat → Nat → Int32 → Nat → Nat → Int32 → wPS → (Unit → wPS → Prop) → Prop) (c s : Nat) (l0A : Nat) (l1I : Int32) (l2A : Nat) (l3A : Nat) (l4I : Int32) (S : wPS) (Φ : (Unit → wPS → Prop)) : Prop :=
  if (gEntry_itemCount S l2A) ≤ l4I then (Φ () S) else (rX9_at F l0A (l1I + l4I) S fun v9 S10 => if v9 = (1 : Int32) then (rX3_at F l2A l4I (0 : Int32) S10 fun v16 S17 => rX3_at F l2A l4I (1 : Int32) S17 fun v21 S22 => rX9_set F l3A v16 v21 S22 fun v26 S27 => rX3_at F l2A l4I (1 : Int32) S27 fun v31 S32 => rX3_at F l2A l4I (0 : Int32) S32 fun v36 S37 => rX9_set F l3A v31 v36 S37 fun v41 S42 => wkLt (l4I + (1 : Int32)) fun x46 => rec 1 c s l0A l1I l2A l3A x46 S42 Φ) else (wkLt (l4I + (1 : Int32)) fun x15 => rec 1 c s l0A l1I l2A l3A x15 S10 Φ))
def rX4_bringPairs_go (F : Nat) (k n : Nat) : Nat → Nat → Nat → Nat → Nat → Int32 → Nat → Nat → Int32 → wPS → (Unit → wPS → Prop) → Prop
  | 0, _, _, _, _, _, _, _, _, _, _ => False
  | k' + 1, lab, c, s, l0A, l1I, l2A, l3A, l4I, S, Φ => if lab = 0 then rX4_bringPairs_b0 F k n (rX4_bringPairs_go F k n k') c s l0A l1I l2A l3A l4I S Φ else if lab = 1 then rX4_bringPairs_b1 F k n (rX4_bringPairs_go F k n k') c s l0A l1I l2A l3A l4I S Φ else False
def rX4_bringPairs_s (F : Nat) (k n : Nat) (rec : Nat → Nat → Nat → Nat → Int32 → Nat → Nat → Int32 → wPS → (Unit → wPS → Prop) → Prop) (l0A : Nat) (l1I : Int32) (l2A : Nat) (l3A : Nat) (S : wPS) (Φ : (Unit → wPS → Prop)) : Prop :=
  rec 0 0 0 l0A l1I l2A l3A (0 : Int32) S Φ
def rX4_bringPairs (F : Nat) (k n : Nat) (l0A : Nat) (l1I : Int32) (l2A : Nat) (l3A : Nat) (S : wPS) (Φ : (Unit → wPS → Prop)) : Prop := rX4_bringPairs_s F k n (rX4_bringPairs_go F k n F) l0A l1I l2A l3A S Φ
set_option maxHeartbeats 4000000 in
set_option maxRecDepth 100000 in
theorem tX4_bringPairs_go {k n : Nat} {l : Launch} {X : wkX} {d F : Nat} {S0 : wPS} {Φ : (Unit → wPS → Prop)} (C : wkC X cX4_bringPairs RX4 5 wvX4_bringPairs) (hR : wkRm X d k n) (hd : 3 ≤ d) (E : wkEnd l X cX4_bringPairs 5 none k n (fun v' S'' => ∃ v : Unit, v' = none ∧ Φ v S'' ∧ wkWF S'' ∧ wkExt S0 S'')) : ∀ k' : Nat, (∀ (c s : Nat), c ≤ k → s ≤ n → ∀ (l0A : Nat) (l1I : Int32) (l2A : Nat) (l3A : Nat) (l4I : Int32) (S : wPS), wkWF S → wkExt S0 S → wkIs S l0A 9 → wkIs S l2A 3 → wkIs S l3A 9 → rX4_bringPairs_go F k n k' 0 c s l0A l1I l2A l3A l4I S Φ → wkGo l X 5 c s 3 S [some (.ref l0A), some (.int l1I), some (.ref l2A), some (.ref l3A), some (.int l4I)] []) ∧ (∀ (c s : Nat), c ≤ k → s ≤ n → ∀ (l0A : Nat) (l1I : Int32) (l2A : Nat) (l3A : Nat) (l4I : Int32) (S : wPS), wkWF S → wkExt S0 S → wkIs S l0A 9 → wkIs S l2A 3 → wkIs S l3A 9 → rX4_bringPairs_go F k n k' 1 c s l0A l1I l2A l3A l4I S Φ → wkGo l X 5 c s 27 S [some (.ref l0A), some (.int l1I), some (.ref l2A), some (.ref l3A), some (.int l4I)] []) := by
  intro k'
  induction k' with
  | zero => exact ⟨fun c s hc hs l0A l1I l2A l3A l4I S hW hE hl0A hl2A hl3A h => h.elim, fun c s hc hs l0A l1I l2A l3A l4I S hW hE hl0A hl2A hl3A h => h.elim⟩
  | succ k' ih =>
    refine ⟨?_, ?_⟩
    · intro c s hc hs l0A l1I l2A l3A l4I S hW hE hl0A hl2A hl3A h
      have h : rX4_bringPairs_b0 F k n (rX4_bringPairs_go F k n k') c s l0A l1I l2A l3A l4I S Φ := by
        rw [rX4_bringPairs_go, if_pos (rfl : (0 : Nat) = 0)] at h
        exact h
      unfold rX4_bringPairs_b0 at h
      refine wk_iload C dX4_bringPairs_3 rfl ?_
      refine wk_aload_n C dX4_bringPairs_5 rfl rfl ?_
      refine wk_get C (v := .int (gEntry_size S l2A)) huX4_bringPairs_3 hl2A.1 (fun cy => wAt_3 cy _ hl2A.2) rfl 1 (by decide) (List.mem_of_getElem? (i := 1) rfl) rfl rfl dX4_bringPairs_6 ?_
      refine wk_icmp_ge C (tgt := 24) dX4_bringPairs_9 (by decide) (fun c1 => ?_) (fun c1 => ?_)
      · rw [if_pos c1] at h
        refine wk_iconst C (v := 0) dX4_bringPairs_24 (by decide) ?_
        refine wk_istore C (lv' := [some (.ref l0A), some (.int l1I), some (.ref l2A), some (.ref l3A), some (.int (0 : Int32))]) dX4_bringPairs_25 (by decide) rfl ?_
        exact wk_forget (lv' := [some (.ref l0A), some (.int l1I), some (.ref l2A), some (.ref l3A), some (.int (0 : Int32))]) (wkLs.le ⟨rfl, rfl, rfl, rfl, rfl, trivial⟩) (ih.2 _ _ hc hs _ _ _ _ _ _ hW hE hl0A hl2A hl3A h)
      · rw [if_neg c1] at h
        refine wk_aload_n C dX4_bringPairs_12 rfl rfl ?_
        refine wk_iload C dX4_bringPairs_13 rfl ?_
        obtain ⟨k5, n6, hk5, hn6, h⟩ := h
        refine wk_callV C hR (As := [.int l4I]) (cnt := 1) (tX9_add (l := l) hW hl3A h) rfl (wkGoodV (List.mem_of_getElem? (i := 2) rfl) (List.mem_of_getElem? (i := 3) rfl) (List.mem_of_getElem? (i := 4) rfl) (List.mem_of_getElem? (i := 5) rfl) hbX4_bringPairs_X9_add gdX9_add) (Nat.le_trans (by decide : 2 + 1 ≤ 3) hd) (by decide) hl3A.1 (fun cy => wAt_9 cy _ hl3A.2) rfl ⟨by decide, by decide, by decide +kernel⟩ rfl rfl (Nat.le_of_ble_eq_true rfl) hk5 hn6 dX4_bringPairs_15 (fun v' S3 hp => ?_)
        obtain ⟨v2, rfl, h, hWS3, hXS3⟩ := hp
        obtain ⟨x7, ex7, h⟩ := wkLt_some h
        refine wk_iinc C (lv' := [some (.ref l0A), some (.int l1I), some (.ref l2A), some (.ref l3A), some (.int x7)]) dX4_bringPairs_18 rfl (by rw [ex7]; rfl) (by decide) rfl ?_
        refine wk_goto C (tgt := 3) dX4_bringPairs_21 (by decide) ?_
        exact wk_forget (lv' := [some (.ref l0A), some (.int l1I), some (.ref l2A), some (.ref l3A), some (.int x7)]) (wkLs.le ⟨rfl, rfl, rfl, rfl, rfl, trivial⟩) (ih.1 _ _ hk5 hn6 _ _ _ _ _ _ hWS3 (wkExt.tr hE hXS3) (hXS3 _ _ hl0A) (hXS3 _ _ hl2A) (hXS3 _ _ hl3A) h)
    · intro c s hc hs l0A l1I l2A l3A l4I S hW hE hl0A hl2A hl3A h
      have h : rX4_bringPairs_b1 F k n (rX4_bringPairs_go F k n k') c s l0A l1I l2A l3A l4I S Φ := by
        rw [rX4_bringPairs_go, if_neg (show ¬ (1 : Nat) = 0 by decide), if_pos (rfl : (1 : Nat) = 1)] at h
        exact h
      unfold rX4_bringPairs_b1 at h
      refine wk_iload C dX4_bringPairs_27 rfl ?_
      refine wk_aload_n C dX4_bringPairs_29 rfl rfl ?_
      refine wk_get C (v := .int (gEntry_itemCount S l2A)) huX4_bringPairs_3 hl2A.1 (fun cy => wAt_3 cy _ hl2A.2) rfl 6 (by decide) (List.mem_of_getElem? (i := 6) rfl) rfl rfl dX4_bringPairs_30 ?_
      refine wk_icmp_ge C (tgt := 90) dX4_bringPairs_33 (by decide) (fun c8 => ?_) (fun c8 => ?_)
      · rw [if_pos c8] at h
        exact E _ _ _ _ _ hc hs dX4_bringPairs_90 ⟨(), rfl, h, hW, hE⟩
      · rw [if_neg c8] at h
        refine wk_aload_n C dX4_bringPairs_36 rfl rfl ?_
        refine wk_iload_n C dX4_bringPairs_37 rfl rfl ?_
        refine wk_iload C dX4_bringPairs_38 rfl ?_
        refine wk_iadd C dX4_bringPairs_40 rfl ?_
        refine wk_callV C hR (As := [.int (l1I + l4I)]) (cnt := 1) (tX9_at (l := l) hW hl0A h) rfl (wkGoodV (List.mem_of_getElem? (i := 7) rfl) (List.mem_of_getElem? (i := 8) rfl) (List.mem_of_getElem? (i := 9) rfl) (List.mem_of_getElem? (i := 5) rfl) hbX4_bringPairs_X9_at gdX9_at) (Nat.le_trans (by decide : 0 + 1 ≤ 3) hd) (by decide) hl0A.1 (fun cy => wAt_9 cy _ hl0A.2) rfl ⟨by decide, by decide, by decide +kernel⟩ rfl rfl (Nat.le_of_ble_eq_true rfl) hc hs dX4_bringPairs_41 (fun v' S10 hp => ?_)
        obtain ⟨v9, rfl, h, hWS10, hXS10⟩ := hp
        refine wk_iconst C (v := 1) dX4_bringPairs_44 (by decide) ?_
        refine wk_icmp_ne C (tgt := 84) dX4_bringPairs_45 (by decide) (fun c14 => ?_) (fun c14 => ?_)
        · rw [if_neg c14] at h
          obtain ⟨x15, ex15, h⟩ := wkLt_some h
          refine wk_iinc C (lv' := [some (.ref l0A), some (.int l1I), some (.ref l2A), some (.ref l3A), some (.int x15)]) dX4_bringPairs_84 rfl (by rw [ex15]; rfl) (by decide) rfl ?_
          refine wk_goto C (tgt := 27) dX4_bringPairs_87 (by decide) ?_
          exact wk_forget (lv' := [some (.ref l0A), some (.int l1I), some (.ref l2A), some (.ref l3A), some (.int x15)]) (wkLs.le ⟨rfl, rfl, rfl, rfl, rfl, trivial⟩) (ih.2 _ _ hc hs _ _ _ _ _ _ hWS10 (wkExt.tr hE hXS10) (hXS10 _ _ hl0A) (hXS10 _ _ hl2A) (hXS10 _ _ hl3A) h)
        · rw [if_pos c14] at h
          refine wk_aload_n C dX4_bringPairs_48 rfl rfl ?_
          refine wk_aload_n C dX4_bringPairs_49 rfl rfl ?_
          refine wk_iload C dX4_bringPairs_50 rfl ?_
          refine wk_iconst C (v := 0) dX4_bringPairs_52 (by decide) ?_
          refine wk_callV C hR (As := [.int l4I, .int (0 : Int32)]) (cnt := 2) (tX3_at (l := l) hWS10 (hXS10 _ _ hl2A) h) rfl (wkGoodV (List.mem_of_getElem? (i := 10) rfl) (List.mem_of_getElem? (i := 11) rfl) (List.mem_of_getElem? (i := 12) rfl) (List.mem_of_getElem? (i := 13) rfl) hbX4_bringPairs_X3_at gdX3_at) (Nat.le_trans (by decide : 0 + 1 ≤ 3) hd) (by decide) (hXS10 _ _ hl2A).1 (fun cy => wAt_3 cy _ (hXS10 _ _ hl2A).2) rfl ⟨by decide, by decide, by decide +kernel⟩ rfl rfl (Nat.le_of_ble_eq_true rfl) hc hs dX4_bringPairs_53 (fun v' S17 hp => ?_)
          obtain ⟨v16, rfl, h, hWS17, hXS17⟩ := hp
          refine wk_aload_n C dX4_bringPairs_56 rfl rfl ?_
          refine wk_iload C dX4_bringPairs_57 rfl ?_
          refine wk_iconst C (v := 1) dX4_bringPairs_59 (by decide) ?_
          refine wk_callV C hR (As := [.int l4I, .int (1 : Int32)]) (cnt := 2) (tX3_at (l := l) hWS17 (hXS17 _ _ (hXS10 _ _ hl2A)) h) rfl (wkGoodV (List.mem_of_getElem? (i := 10) rfl) (List.mem_of_getElem? (i := 11) rfl) (List.mem_of_getElem? (i := 12) rfl) (List.mem_of_getElem? (i := 13) rfl) hbX4_bringPairs_X3_at gdX3_at) (Nat.le_trans (by decide : 0 + 1 ≤ 3) hd) (by decide) (hXS17 _ _ (hXS10 _ _ hl2A)).1 (fun cy => wAt_3 cy _ (hXS17 _ _ (hXS10 _ _ hl2A)).2) rfl ⟨by decide, by decide, by decide +kernel⟩ rfl rfl (Nat.le_of_ble_eq_true rfl) hc hs dX4_bringPairs_60 (fun v' S22 hp => ?_)
          obtain ⟨v21, rfl, h, hWS22, hXS22⟩ := hp
          refine wk_callV C hR (As := [.int v16, .int v21]) (cnt := 2) (tX9_set (l := l) hWS22 (hXS22 _ _ (hXS17 _ _ (hXS10 _ _ hl3A))) h) rfl (wkGoodV (List.mem_of_getElem? (i := 14) rfl) (List.mem_of_getElem? (i := 15) rfl) (List.mem_of_getElem? (i := 16) rfl) (List.mem_of_getElem? (i := 5) rfl) hbX4_bringPairs_X9_set gdX9_set) (Nat.le_trans (by decide : 0 + 1 ≤ 3) hd) (by decide) (hXS22 _ _ (hXS17 _ _ (hXS10 _ _ hl3A))).1 (fun cy => wAt_9 cy _ (hXS22 _ _ (hXS17 _ _ (hXS10 _ _ hl3A))).2) rfl ⟨by decide, by decide, by decide +kernel⟩ rfl rfl (Nat.le_of_ble_eq_true rfl) hc hs dX4_bringPairs_63 (fun v' S27 hp => ?_)
          obtain ⟨v26, rfl, h, hWS27, hXS27⟩ := hp
          refine wk_aload_n C dX4_bringPairs_66 rfl rfl ?_
          refine wk_aload_n C dX4_bringPairs_67 rfl rfl ?_
          refine wk_iload C dX4_bringPairs_68 rfl ?_
          refine wk_iconst C (v := 1) dX4_bringPairs_70 (by decide) ?_
          refine wk_callV C hR (As := [.int l4I, .int (1 : Int32)]) (cnt := 2) (tX3_at (l := l) hWS27 (hXS27 _ _ (hXS22 _ _ (hXS17 _ _ (hXS10 _ _ hl2A)))) h) rfl (wkGoodV (List.mem_of_getElem? (i := 10) rfl) (List.mem_of_getElem? (i := 11) rfl) (List.mem_of_getElem? (i := 12) rfl) (List.mem_of_getElem? (i := 13) rfl) hbX4_bringPairs_X3_at gdX3_at) (Nat.le_trans (by decide : 0 + 1 ≤ 3) hd) (by decide) (hXS27 _ _ (hXS22 _ _ (hXS17 _ _ (hXS10 _ _ hl2A)))).1 (fun cy => wAt_3 cy _ (hXS27 _ _ (hXS22 _ _ (hXS17 _ _ (hXS10 _ _ hl2A)))).2) rfl ⟨by decide, by decide, by decide +kernel⟩ rfl rfl (Nat.le_of_ble_eq_true rfl) hc hs dX4_bringPairs_71 (fun v' S32 hp => ?_)
          obtain ⟨v31, rfl, h, hWS32, hXS32⟩ := hp
          refine wk_aload_n C dX4_bringPairs_74 rfl rfl ?_
          refine wk_iload C dX4_bringPairs_75 rfl ?_
          refine wk_iconst C (v := 0) dX4_bringPairs_77 (by decide) ?_
          refine wk_callV C hR (As := [.int l4I, .int (0 : Int32)]) (cnt := 2) (tX3_at (l := l) hWS32 (hXS32 _ _ (hXS27 _ _ (hXS22 _ _ (hXS17 _ _ (hXS10 _ _ hl2A))))) h) rfl (wkGoodV (List.mem_of_getElem? (i := 10) rfl) (List.mem_of_getElem? (i := 11) rfl) (List.mem_of_getElem? (i := 12) rfl) (List.mem_of_getElem? (i := 13) rfl) hbX4_bringPairs_X3_at gdX3_at) (Nat.le_trans (by decide : 0 + 1 ≤ 3) hd) (by decide) (hXS32 _ _ (hXS27 _ _ (hXS22 _ _ (hXS17 _ _ (hXS10 _ _ hl2A))))).1 (fun cy => wAt_3 cy _ (hXS32 _ _ (hXS27 _ _ (hXS22 _ _ (hXS17 _ _ (hXS10 _ _ hl2A))))).2) rfl ⟨by decide, by decide, by decide +kernel⟩ rfl rfl (Nat.le_of_ble_eq_true rfl) hc hs dX4_bringPairs_78 (fun v' S37 hp => ?_)
          obtain ⟨v36, rfl, h, hWS37, hXS37⟩ := hp
          refine wk_callV C hR (As := [.int v31, .int v36]) (cnt := 2) (tX9_set (l := l) hWS37 (hXS37 _ _ (hXS32 _ _ (hXS27 _ _ (hXS22 _ _ (hXS17 _ _ (hXS10 _ _ hl3A)))))) h) rfl (wkGoodV (List.mem_of_getElem? (i := 14) rfl) (List.mem_of_getElem? (i := 15) rfl) (List.mem_of_getElem? (i := 16) rfl) (List.mem_of_getElem? (i := 5) rfl) hbX4_bringPairs_X9_set gdX9_set) (Nat.le_trans (by decide : 0 + 1 ≤ 3) hd) (by decide) (hXS37 _ _ (hXS32 _ _ (hXS27 _ _ (hXS22 _ _ (hXS17 _ _ (hXS10 _ _ hl3A)))))).1 (fun cy => wAt_9 cy _ (hXS37 _ _ (hXS32 _ _ (hXS27 _ _ (hXS22 _ _ (hXS17 _ _ (hXS10 _ _ hl3A)))))).2) rfl ⟨by decide, by decide, by decide +kernel⟩ rfl rfl (Nat.le_of_ble_eq_true rfl) hc hs dX4_bringPairs_81 (fun v' S42 hp => ?_)
          obtain ⟨v41, rfl, h, hWS42, hXS42⟩ := hp
          obtain ⟨x46, ex46, h⟩ := wkLt_some h
          refine wk_iinc C (lv' := [some (.ref l0A), some (.int l1I), some (.ref l2A), some (.ref l3A), some (.int x46)]) dX4_bringPairs_84 rfl (by rw [ex46]; rfl) (by decide) rfl ?_
          refine wk_goto C (tgt := 27) dX4_bringPairs_87 (by decide) ?_
          exact wk_forget (lv' := [some (.ref l0A), some (.int l1I), some (.ref l2A), some (.ref l3A), some (.int x46)]) (wkLs.le ⟨rfl, rfl, rfl, rfl, rfl, trivial⟩) (ih.2 _ _ hc hs _ _ _ _ _ _ hWS42 (wkExt.tr (wkExt.tr (wkExt.tr (wkExt.tr (wkExt.tr (wkExt.tr (wkExt.tr hE hXS10) hXS17) hXS22) hXS27) hXS32) hXS37) hXS42) (hXS42 _ _ (hXS37 _ _ (hXS32 _ _ (hXS27 _ _ (hXS22 _ _ (hXS17 _ _ (hXS10 _ _ hl0A))))))) (hXS42 _ _ (hXS37 _ _ (hXS32 _ _ (hXS27 _ _ (hXS22 _ _ (hXS17 _ _ (hXS10 _ _ hl2A))))))) (hXS42 _ _ (hXS37 _ _ (hXS32 _ _ (hXS27 _ _ (hXS22 _ _ (hXS17 _ _ (hXS10 _ _ hl3A))))))) h)
set_option maxHeartbeats 4000000 in
set_option maxRecDepth 100000 in
theorem tX4_bringPairs {l : Launch} {g : wkG} {F : Nat} {k n : Nat}  {S : wPS} {l0A : Nat} {l1I : Int32} {l2A : Nat} {l3A : Nat} {Φ : (Unit → wPS → Prop)} (hW : wkWF S) (hl0A : wkIs S l0A 9) (hl2A : wkIs S l2A 3) (hl3A : wkIs S l3A 9) (h : rX4_bringPairs F k n l0A l1I l2A l3A S Φ) : wkMet l g yX4_bringPairs wvX4_bringPairs 3 k n [.ref l0A, .int l1I, .ref l2A, .ref l3A] S (fun v' S'' => ∃ v : Unit, v' = none ∧ Φ v S'' ∧ wkWF S'' ∧ wkExt S S'') := by
  refine wkMet_of (ret := none) (by decide) rfl (Nat.le_of_ble_eq_true rfl) (fun X hg C hR E => ?_)
  subst hg
  have hE : wkExt S S := wkExt.rf
  have hd : 3 ≤ 3 := Nat.le_refl _
  show wkGo l X 5 0 0 0 S [some (.ref l0A), some (.int l1I), some (.ref l2A), some (.ref l3A), none] []
  have ih := tX4_bringPairs_go (F := F) C hR hd E F
  have h : rX4_bringPairs_s F k n (rX4_bringPairs_go F k n F) l0A l1I l2A l3A S Φ := h
  unfold rX4_bringPairs_s at h
  refine wk_iconst C (v := 0) dX4_bringPairs_0 (by decide) ?_
  refine wk_istore C (lv' := [some (.ref l0A), some (.int l1I), some (.ref l2A), some (.ref l3A), some (.int (0 : Int32))]) dX4_bringPairs_1 (by decide) rfl ?_
  exact wk_forget (lv' := [some (.ref l0A), some (.int l1I), some (.ref l2A), some (.ref l3A), some (.int (0 : Int32))]) (wkLs.le ⟨rfl, rfl, rfl, rfl, rfl, trivial⟩) (ih.1 _ _ (Nat.zero_le _) (Nat.zero_le _) _ _ _ _ _ _ hW hE hl0A hl2A hl3A h)
