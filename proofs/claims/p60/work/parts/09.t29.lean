def wvX4_neighboursOf : List Cond := .code yX4_neighboursOf cX4_neighboursOf 4 (some .int) :: (([.fieldLink RX4 60 "Witnessworks$House" "near" "[I", .static yX11_has, .initialized RX11] : List Cond) ++ ((wsX40) ++ (wvX11_has)))
theorem huX4_neighboursOf_4 : ∀ w ∈ u_ws RX4 TX4 8, w ∈ wvX4_neighboursOf := fun w h => List.mem_cons_of_mem _ (List.mem_append_right _ (List.mem_append_left _ h))
theorem hbX4_neighboursOf_X11_has : ∀ w ∈ wvX11_has, w ∈ wvX4_neighboursOf := fun w h => List.mem_cons_of_mem _ (List.mem_append_right _ (List.mem_append_right _ h))
theorem gdX4_neighboursOf : ∀ w ∈ wvX4_neighboursOf, wkGd w := wkGdC rfl (wkGdA (wkGdL (by decide +kernel)) (wkGdA gdX4 gdX11_has))
def rX4_neighboursOf_b0 (F : Nat) (rec : Nat → Nat → Int32 → Int32 → Int32 → wPS → (Int32 → wPS → Prop) → Prop) (l0A : Nat) (l1I : Int32) (l2I : Int32) (l3I : Int32) (S : wPS) (Φ : (Int32 → wPS → Prop)) : Prop :=
  if (Int32.ofNat (S.len (wkAd (gHouse_near S l0A)))) ≤ l3I then (Φ l2I S) else (rX11_has F l1I l3I S fun v2 S3 => if v2 = 0 then (wkLt (l3I + (1 : Int32)) fun x8 => rec 0 l0A l1I l2I x8 S3 Φ) else (¬ (l3I < 0 ∨ S3.len (wkAd (gHouse_near S3 l0A)) ≤ (l3I).toNatClampNeg) ∧ wkLt ((l2I ||| (S3.rI (wkAd (gHouse_near S3 l0A)) (l3I).toNatClampNeg))) fun x10 => wkLt (l3I + (1 : Int32)) fun x11 => rec 0 l0A l1I x10 x11 S3 Φ))
def rX4_neighboursOf_go (F : Nat) : Nat → Nat → Nat → Int32 → Int32 → Int32 → wPS → (Int32 → wPS → Prop) → Prop
  | 0, _, _, _, _, _, _, _ => False
  | k' + 1, lab, l0A, l1I, l2I, l3I, S, Φ => if lab = 0 then rX4_neighboursOf_b0 F (rX4_neighboursOf_go F k') l0A l1I l2I l3I S Φ else False
def rX4_neighboursOf_s (F : Nat) (rec : Nat → Nat → Int32 → Int32 → Int32 → wPS → (Int32 → wPS → Prop) → Prop) (l0A : Nat) (l1I : Int32) (S : wPS) (Φ : (Int32 → wPS → Prop)) : Prop :=
  rec 0 l0A l1I (0 : Int32) (0 : Int32) S Φ
def rX4_neighboursOf (F : Nat) (l0A : Nat) (l1I : Int32) (S : wPS) (Φ : (Int32 → wPS → Prop)) : Prop := rX4_neighboursOf_s F (rX4_neighboursOf_go F F) l0A l1I S Φ
set_option maxHeartbeats 4000000 in
set_option maxRecDepth 100000 in
theorem tX4_neighboursOf_go {l : Launch} {X : wkX} {d F : Nat} {S0 : wPS} {Φ : (Int32 → wPS → Prop)} (C : wkC X cX4_neighboursOf RX4 4 wvX4_neighboursOf) (hR : wkRm X d 0 0) (hd : 1 ≤ d) (E : wkEnd l X cX4_neighboursOf 4 (some .int) 0 0 (fun v' S'' => ∃ v : Int32, v' = some (.int v) ∧ Φ v S'' ∧ wkWF S'' ∧ wkExt S0 S'')) : ∀ k' : Nat, (∀ (l0A : Nat) (l1I : Int32) (l2I : Int32) (l3I : Int32) (S : wPS), wkWF S → wkExt S0 S → wkIs S l0A 4 → rX4_neighboursOf_go F k' 0 l0A l1I l2I l3I S Φ → wkGo l X 4 0 0 4 S [some (.ref l0A), some (.int l1I), some (.int l2I), some (.int l3I)] []) := by
  intro k'
  induction k' with
  | zero => exact fun l0A l1I l2I l3I S hW hE hl0A h => h.elim
  | succ k' ih =>
    · intro l0A l1I l2I l3I S hW hE hl0A h
      have h : rX4_neighboursOf_b0 F (rX4_neighboursOf_go F k') l0A l1I l2I l3I S Φ := by
        rw [rX4_neighboursOf_go, if_pos (rfl : (0 : Nat) = 0)] at h
        exact h
      unfold rX4_neighboursOf_b0 at h
      refine wk_iload_n C dX4_neighboursOf_4 rfl rfl ?_
      refine wk_aload_n C dX4_neighboursOf_5 rfl rfl ?_
      refine wk_get C huX4_neighboursOf_4 hl0A.1 (fun cy => wAt_4 cy _ hl0A.2) rfl 7 (by decide) (List.mem_of_getElem? (i := 1) rfl) rfl (congrArg some (congrArg va_rf (wf_House_near hW hl0A).1)) dX4_neighboursOf_6 ?_
      refine wk_ilen C (wf_House_near hW hl0A).2.1 (wf_House_near hW hl0A).2.2 rfl dX4_neighboursOf_9 ?_
      refine wk_icmp_ge C (tgt := 36) dX4_neighboursOf_10 (by decide) (fun c1 => ?_) (fun c1 => ?_)
      · rw [if_pos c1] at h
        refine wk_iload_n C dX4_neighboursOf_36 rfl rfl ?_
        exact E _ _ _ _ _ _ (Nat.le_refl 0) (Nat.le_refl 0) dX4_neighboursOf_37 ⟨l2I, rfl, h, hW, hE⟩
      · rw [if_neg c1] at h
        refine wk_iload_n C dX4_neighboursOf_13 rfl rfl ?_
        refine wk_iload_n C dX4_neighboursOf_14 rfl rfl ?_
        refine wk_callN C hR (y := yX11_has) (host := "Witnessworks") (As := [.int l1I, .int l3I]) (cnt := 2) (tX11_has (l := l) hW  h) rfl (fun w h => ⟨hbX4_neighboursOf_X11_has w h, gdX11_has w h⟩) (by decide +kernel) (List.mem_of_getElem? (i := 2) rfl) (List.mem_of_getElem? (i := 3) rfl) (Nat.le_trans (by decide : 0 + 1 ≤ 1) hd) (by decide) ⟨by decide, by decide, by decide +kernel⟩ rfl rfl (Nat.le_of_ble_eq_true rfl) (Nat.le_refl 0) (Nat.le_refl 0) dX4_neighboursOf_15 (fun v' S3 hp => ?_)
        obtain ⟨v2, rfl, h, hWS3, hXS3⟩ := hp
        refine wk_if_eq C (tgt := 30) dX4_neighboursOf_18 (by decide) (fun c7 => ?_) (fun c7 => ?_)
        · rw [if_pos c7] at h
          obtain ⟨x8, ex8, h⟩ := wkLt_some h
          refine wk_iinc C (lv' := [some (.ref l0A), some (.int l1I), some (.int l2I), some (.int x8)]) dX4_neighboursOf_30 rfl (by rw [ex8]; rfl) (by decide) rfl ?_
          refine wk_goto C (tgt := 4) dX4_neighboursOf_33 (by decide) ?_
          exact wk_forget (lv' := [some (.ref l0A), some (.int l1I), some (.int l2I), some (.int x8)]) (wkLs.le ⟨rfl, rfl, rfl, rfl, trivial⟩) (ih _ _ _ _ _ hWS3 (wkExt.tr hE hXS3) (hXS3 _ _ hl0A) h)
        · rw [if_neg c7] at h
          refine wk_iload_n C dX4_neighboursOf_21 rfl rfl ?_
          refine wk_aload_n C dX4_neighboursOf_22 rfl rfl ?_
          refine wk_get C huX4_neighboursOf_4 (hXS3 _ _ hl0A).1 (fun cy => wAt_4 cy _ (hXS3 _ _ hl0A).2) rfl 7 (by decide) (List.mem_of_getElem? (i := 1) rfl) rfl (congrArg some (congrArg va_rf (wf_House_near hWS3 (hXS3 _ _ hl0A)).1)) dX4_neighboursOf_23 ?_
          refine wk_iload_n C dX4_neighboursOf_26 rfl rfl ?_
          obtain ⟨i9, h⟩ := h
          refine wk_iald C (wf_House_near hWS3 (hXS3 _ _ hl0A)).2.1 (wf_House_near hWS3 (hXS3 _ _ hl0A)).2.2 i9 rfl dX4_neighboursOf_27 ?_
          refine wk_ior C dX4_neighboursOf_28 rfl ?_
          obtain ⟨x10, ex10, h⟩ := wkLt_some h
          refine wk_topi ex10 ?_
          refine wk_istore_n C (lv' := [some (.ref l0A), some (.int l1I), some (.int x10), some (.int l3I)]) dX4_neighboursOf_29 rfl (by decide) rfl ?_
          obtain ⟨x11, ex11, h⟩ := wkLt_some h
          refine wk_iinc C (lv' := [some (.ref l0A), some (.int l1I), some (.int x10), some (.int x11)]) dX4_neighboursOf_30 rfl (by rw [ex11]; rfl) (by decide) rfl ?_
          refine wk_goto C (tgt := 4) dX4_neighboursOf_33 (by decide) ?_
          exact wk_forget (lv' := [some (.ref l0A), some (.int l1I), some (.int x10), some (.int x11)]) (wkLs.le ⟨rfl, rfl, rfl, rfl, trivial⟩) (ih _ _ _ _ _ hWS3 (wkExt.tr hE hXS3) (hXS3 _ _ hl0A) h)
set_option maxHeartbeats 4000000 in
set_option maxRecDepth 100000 in
theorem tX4_neighboursOf {l : Launch} {g : wkG} {F : Nat}  {S : wPS} {l0A : Nat} {l1I : Int32} {Φ : (Int32 → wPS → Prop)} (hW : wkWF S) (hl0A : wkIs S l0A 4) (h : rX4_neighboursOf F l0A l1I S Φ) : wkMet l g yX4_neighboursOf wvX4_neighboursOf 1 0 0 [.ref l0A, .int l1I] S (fun v' S'' => ∃ v : Int32, v' = some (.int v) ∧ Φ v S'' ∧ wkWF S'' ∧ wkExt S S'') := by
  refine wkMet_of (ret := (some .int)) (by decide) rfl (Nat.le_of_ble_eq_true rfl) (fun X hg C hR E => ?_)
  subst hg
  have hE : wkExt S S := wkExt.rf
  have hd : 1 ≤ 1 := Nat.le_refl _
  show wkGo l X 4 0 0 0 S [some (.ref l0A), some (.int l1I), none, none] []
  have ih := tX4_neighboursOf_go (F := F) C hR hd E F
  have h : rX4_neighboursOf_s F (rX4_neighboursOf_go F F) l0A l1I S Φ := h
  unfold rX4_neighboursOf_s at h
  refine wk_iconst C (v := 0) dX4_neighboursOf_0 (by decide) ?_
  refine wk_istore_n C (lv' := [some (.ref l0A), some (.int l1I), some (.int (0 : Int32)), none]) dX4_neighboursOf_1 rfl (by decide) rfl ?_
  refine wk_iconst C (v := 0) dX4_neighboursOf_2 (by decide) ?_
  refine wk_istore_n C (lv' := [some (.ref l0A), some (.int l1I), some (.int (0 : Int32)), some (.int (0 : Int32))]) dX4_neighboursOf_3 rfl (by decide) rfl ?_
  exact wk_forget (lv' := [some (.ref l0A), some (.int l1I), some (.int (0 : Int32)), some (.int (0 : Int32))]) (wkLs.le ⟨rfl, rfl, rfl, rfl, trivial⟩) (ih _ _ _ _ _ hW hE hl0A h)
def wvX4_carriesFlows : List Cond := .code yX4_carriesFlows cX4_carriesFlows 6 (some .boolean) :: (([.methodLink RX4 255 yX3_addItem, .instanceMethod yX3_addItem, .selects RX3 yX3_addItem yX3_addItem, .initialized RX3, .methodLink RX4 269 yX3_addTo, .instanceMethod yX3_addTo, .selects RX3 yX3_addTo yX3_addTo, .methodLink RX4 222 yX3_at, .instanceMethod yX3_at, .selects RX3 yX3_at yX3_at, .fieldLink RX4 191 "Witnessworks$Entry" "size" "I", .fieldLink RX4 116 "Witnessworks$Entry" "boundNow" "I", .methodLink RX4 272 yX4_addBalance, .static yX4_addBalance, .initialized RX4, .fieldLink RX4 219 "Witnessworks$Entry" "itemCount" "I", .methodLink RX4 251 yX3_begin, .instanceMethod yX3_begin, .selects RX3 yX3_begin yX3_begin] : List Cond) ++ ((wsX30) ++ (wvX3_addItem ++ (wvX3_addTo ++ (wvX3_at ++ (wvX4_addBalance ++ (wvX3_begin)))))))
theorem huX4_carriesFlows_3 : ∀ w ∈ u_ws RX3 TX3 17, w ∈ wvX4_carriesFlows := fun w h => List.mem_cons_of_mem _ (List.mem_append_right _ (List.mem_append_left _ h))
theorem hbX4_carriesFlows_X3_addItem : ∀ w ∈ wvX3_addItem, w ∈ wvX4_carriesFlows := fun w h => List.mem_cons_of_mem _ (List.mem_append_right _ (List.mem_append_right _ (List.mem_append_left _ h)))
theorem hbX4_carriesFlows_X3_addTo : ∀ w ∈ wvX3_addTo, w ∈ wvX4_carriesFlows := fun w h => List.mem_cons_of_mem _ (List.mem_append_right _ (List.mem_append_right _ (List.mem_append_right _ (List.mem_append_left _ h))))
theorem hbX4_carriesFlows_X3_at : ∀ w ∈ wvX3_at, w ∈ wvX4_carriesFlows := fun w h => List.mem_cons_of_mem _ (List.mem_append_right _ (List.mem_append_right _ (List.mem_append_right _ (List.mem_append_right _ (List.mem_append_left _ h)))))
theorem hbX4_carriesFlows_X4_addBalance : ∀ w ∈ wvX4_addBalance, w ∈ wvX4_carriesFlows := fun w h => List.mem_cons_of_mem _ (List.mem_append_right _ (List.mem_append_right _ (List.mem_append_right _ (List.mem_append_right _ (List.mem_append_right _ (List.mem_append_left _ h))))))
theorem hbX4_carriesFlows_X3_begin : ∀ w ∈ wvX3_begin, w ∈ wvX4_carriesFlows := fun w h => List.mem_cons_of_mem _ (List.mem_append_right _ (List.mem_append_right _ (List.mem_append_right _ (List.mem_append_right _ (List.mem_append_right _ (List.mem_append_right _ h))))))
theorem gdX4_carriesFlows : ∀ w ∈ wvX4_carriesFlows, wkGd w := wkGdC rfl (wkGdA (wkGdL (by decide +kernel)) (wkGdA gdX3 (wkGdA gdX3_addItem (wkGdA gdX3_addTo (wkGdA gdX3_at (wkGdA gdX4_addBalance gdX3_begin))))))
def rX4_carriesFlows_b0 (F : Nat) (rec : Nat → Nat → Nat → Int32 → Int32 → wPS → (Int32 → wPS → Prop) → Prop) (l1A : Nat) (l2A : Nat) (l3I : Int32) (l5I : Int32) (S : wPS) (Φ : (Int32 → wPS → Prop)) : Prop :=
  if l3I ≤ l5I then (rec 1 l1A l2A 0 (1 : Int32) S Φ) else (rX3_addItem F l2A (0 : Int32) (0 : Int32) (0 : Int32) S fun v2 S3 => rX3_addTo F l2A l5I l5I (1 : Int32) S3 fun v7 S8 => rX3_at F l1A l5I (2 : Int32) S8 fun v12 S13 => rX3_addTo F l2A l5I (4 : Int32) v12 S13 fun v17 S18 => wkLt (l5I + (1 : Int32)) fun x22 => rec 0 l1A l2A l3I x22 S18 Φ)
def rX4_carriesFlows_b1 (F : Nat) (rec : Nat → Nat → Nat → Int32 → Int32 → wPS → (Int32 → wPS → Prop) → Prop) (l1A : Nat) (l2A : Nat) (l5I : Int32) (S : wPS) (Φ : (Int32 → wPS → Prop)) : Prop :=
  if ((gEntry_size S l1A) - (1 : Int32)) ≤ l5I then (rX4_addBalance F l1A l2A (0 : Int32) (1 : Int32) (gEntry_boundNow S l1A) S fun v24 S25 => rX4_addBalance F l1A l2A (0 : Int32) (-1 : Int32) (-(gEntry_boundNow S25 l1A)) S25 fun v29 S30 => Φ (1 : Int32) S30) else (rX4_addBalance F l1A l2A l5I (-1 : Int32) (0 : Int32) S fun v34 S35 => rX4_addBalance F l1A l2A l5I (1 : Int32) (0 : Int32) S35 fun v39 S40 => wkLt (l5I + (1 : Int32)) fun x44 => rec 1 l1A l2A 0 x44 S40 Φ)
def rX4_carriesFlows_go (F : Nat) : Nat → Nat → Nat → Nat → Int32 → Int32 → wPS → (Int32 → wPS → Prop) → Prop
  | 0, _, _, _, _, _, _, _ => False
  | k' + 1, lab, l1A, l2A, l3I, l5I, S, Φ => if lab = 0 then rX4_carriesFlows_b0 F (rX4_carriesFlows_go F k') l1A l2A l3I l5I S Φ else if lab = 1 then rX4_carriesFlows_b1 F (rX4_carriesFlows_go F k') l1A l2A l5I S Φ else False
def rX4_carriesFlows_s (F : Nat) (rec : Nat → Nat → Nat → Int32 → Int32 → wPS → (Int32 → wPS → Prop) → Prop) (l0A : Nat) (l1A : Nat) (l2A : Nat) (S : wPS) (Φ : (Int32 → wPS → Prop)) : Prop :=
  wkLt ((gEntry_itemCount S l1A)) fun x45 => wkLt (((x45 + ((2 : Int32) * ((gEntry_size S l1A) - (2 : Int32)))) + (2 : Int32))) fun x46 => if x45 < (1 : Int32) then (Φ (0 : Int32) S) else (¬ ((3 : Int32) < 0 ∨ 12 ≤ ((3 : Int32)).toNatClampNeg) ∧ if (wkTab 1 ((3 : Int32)).toNatClampNeg) < x45 then (Φ (0 : Int32) S) else (¬ ((3 : Int32) < 0 ∨ 12 ≤ ((3 : Int32)).toNatClampNeg) ∧ if x46 ≤ (wkTab 4 ((3 : Int32)).toNatClampNeg) then (¬ ((3 : Int32) < 0 ∨ 12 ≤ ((3 : Int32)).toNatClampNeg) ∧ rX3_begin F l2A (3 : Int32) x45 (wkTab 3 ((3 : Int32)).toNatClampNeg) S fun v53 S54 => rec 0 l1A l2A x45 (0 : Int32) S54 Φ) else (Φ (0 : Int32) S)))
def rX4_carriesFlows (F : Nat) (l0A : Nat) (l1A : Nat) (l2A : Nat) (S : wPS) (Φ : (Int32 → wPS → Prop)) : Prop := rX4_carriesFlows_s F (rX4_carriesFlows_go F F) l0A l1A l2A S Φ
set_option maxHeartbeats 4000000 in
set_option maxRecDepth 100000 in
theorem tX4_carriesFlows_go {l : Launch} {X : wkX} {d F : Nat} {S0 : wPS} {Φ : (Int32 → wPS → Prop)} (hst : wkSta (wkXg X)) (C : wkC X cX4_carriesFlows RX4 6 wvX4_carriesFlows) (hR : wkRm X d 0 0) (hd : 2 ≤ d) (E : wkEnd l X cX4_carriesFlows 6 (some .boolean) 0 0 (fun v' S'' => ∃ v : Int32, v' = some (.int v) ∧ Φ v S'' ∧ wkWF S'' ∧ wkExt S0 S'')) : ∀ k' : Nat, (∀ (l1A : Nat) (l2A : Nat) (l3I : Int32) (l5I : Int32) (S : wPS), wkWF S → wkExt S0 S → wkIs S l1A 3 → wkIs S l2A 3 → rX4_carriesFlows_go F k' 0 l1A l2A l3I l5I S Φ → wkGo l X 6 0 0 59 S [none, some (.ref l1A), some (.ref l2A), some (.int l3I), none, some (.int l5I)] []) ∧ (∀ (l1A : Nat) (l2A : Nat) (l5I : Int32) (S : wPS), wkWF S → wkExt S0 S → wkIs S l1A 3 → wkIs S l2A 3 → rX4_carriesFlows_go F k' 1 l1A l2A 0 l5I S Φ → wkGo l X 6 0 0 104 S [none, some (.ref l1A), some (.ref l2A), none, none, some (.int l5I)] []) := by
  intro k'
  induction k' with
  | zero => exact ⟨fun l1A l2A l3I l5I S hW hE hl1A hl2A h => h.elim, fun l1A l2A l5I S hW hE hl1A hl2A h => h.elim⟩
  | succ k' ih =>
    refine ⟨?_, ?_⟩
    · intro l1A l2A l3I l5I S hW hE hl1A hl2A h
      have h : rX4_carriesFlows_b0 F (rX4_carriesFlows_go F k') l1A l2A l3I l5I S Φ := by
        rw [rX4_carriesFlows_go, if_pos (rfl : (0 : Nat) = 0)] at h
        exact h
      unfold rX4_carriesFlows_b0 at h
      refine wk_iload C dX4_carriesFlows_59 rfl ?_
      refine wk_iload_n C dX4_carriesFlows_61 rfl rfl ?_
      refine wk_icmp_ge C (tgt := 101) dX4_carriesFlows_62 (by decide) (fun c1 => ?_) (fun c1 => ?_)
      · rw [if_pos c1] at h
        refine wk_iconst C (v := 1) dX4_carriesFlows_101 (by decide) ?_
        refine wk_istore C (lv' := [none, some (.ref l1A), some (.ref l2A), some (.int l3I), none, some (.int (1 : Int32))]) dX4_carriesFlows_102 (by decide) rfl ?_
        exact wk_forget (lv' := [none, some (.ref l1A), some (.ref l2A), none, none, some (.int (1 : Int32))]) (wkLs.le ⟨rfl, rfl, rfl, trivial⟩) (ih.2 _ _ _ _ hW hE hl1A hl2A h)
      · rw [if_neg c1] at h
        refine wk_aload_n C dX4_carriesFlows_65 rfl rfl ?_
        refine wk_iconst C (v := 0) dX4_carriesFlows_66 (by decide) ?_
        refine wk_iconst C (v := 0) dX4_carriesFlows_67 (by decide) ?_
        refine wk_iconst C (v := 0) dX4_carriesFlows_68 (by decide) ?_
        refine wk_callV C hR (As := [.int (0 : Int32), .int (0 : Int32), .int (0 : Int32)]) (cnt := 3) (tX3_addItem (l := l) hW hl2A h) rfl (wkGoodV (List.mem_of_getElem? (i := 1) rfl) (List.mem_of_getElem? (i := 2) rfl) (List.mem_of_getElem? (i := 3) rfl) (List.mem_of_getElem? (i := 4) rfl) hbX4_carriesFlows_X3_addItem gdX3_addItem) (Nat.le_trans (by decide : 0 + 1 ≤ 2) hd) (by decide) hl2A.1 (fun cy => wAt_3 cy _ hl2A.2) rfl ⟨by decide, by decide, by decide +kernel⟩ rfl rfl (Nat.le_of_ble_eq_true rfl) (Nat.le_refl 0) (Nat.le_refl 0) dX4_carriesFlows_69 (fun v' S3 hp => ?_)
        obtain ⟨v2, rfl, h, hWS3, hXS3⟩ := hp
        refine wk_aload_n C dX4_carriesFlows_72 rfl rfl ?_
        refine wk_iload C dX4_carriesFlows_73 rfl ?_
        refine wk_iload C dX4_carriesFlows_75 rfl ?_
        refine wk_iconst C (v := 1) dX4_carriesFlows_77 (by decide) ?_
        refine wk_callV C hR (As := [.int l5I, .int l5I, .int (1 : Int32)]) (cnt := 3) (tX3_addTo (l := l) hWS3 (hXS3 _ _ hl2A) h) rfl (wkGoodV (List.mem_of_getElem? (i := 5) rfl) (List.mem_of_getElem? (i := 6) rfl) (List.mem_of_getElem? (i := 7) rfl) (List.mem_of_getElem? (i := 4) rfl) hbX4_carriesFlows_X3_addTo gdX3_addTo) (Nat.le_trans (by decide : 0 + 1 ≤ 2) hd) (by decide) (hXS3 _ _ hl2A).1 (fun cy => wAt_3 cy _ (hXS3 _ _ hl2A).2) rfl ⟨by decide, by decide, by decide +kernel⟩ rfl rfl (Nat.le_of_ble_eq_true rfl) (Nat.le_refl 0) (Nat.le_refl 0) dX4_carriesFlows_78 (fun v' S8 hp => ?_)
        obtain ⟨v7, rfl, h, hWS8, hXS8⟩ := hp
        refine wk_aload_n C dX4_carriesFlows_81 rfl rfl ?_
        refine wk_iload C dX4_carriesFlows_82 rfl ?_
        refine wk_iconst C (v := 4) dX4_carriesFlows_84 (by decide) ?_
        refine wk_aload_n C dX4_carriesFlows_85 rfl rfl ?_
        refine wk_iload C dX4_carriesFlows_86 rfl ?_
        refine wk_iconst C (v := 2) dX4_carriesFlows_88 (by decide) ?_
        refine wk_callV C hR (As := [.int l5I, .int (2 : Int32)]) (cnt := 2) (tX3_at (l := l) hWS8 (hXS8 _ _ (hXS3 _ _ hl1A)) h) rfl (wkGoodV (List.mem_of_getElem? (i := 8) rfl) (List.mem_of_getElem? (i := 9) rfl) (List.mem_of_getElem? (i := 10) rfl) (List.mem_of_getElem? (i := 4) rfl) hbX4_carriesFlows_X3_at gdX3_at) (Nat.le_trans (by decide : 0 + 1 ≤ 2) hd) (by decide) (hXS8 _ _ (hXS3 _ _ hl1A)).1 (fun cy => wAt_3 cy _ (hXS8 _ _ (hXS3 _ _ hl1A)).2) rfl ⟨by decide, by decide, by decide +kernel⟩ rfl rfl (Nat.le_of_ble_eq_true rfl) (Nat.le_refl 0) (Nat.le_refl 0) dX4_carriesFlows_89 (fun v' S13 hp => ?_)
        obtain ⟨v12, rfl, h, hWS13, hXS13⟩ := hp
        refine wk_callV C hR (As := [.int l5I, .int (4 : Int32), .int v12]) (cnt := 3) (tX3_addTo (l := l) hWS13 (hXS13 _ _ (hXS8 _ _ (hXS3 _ _ hl2A))) h) rfl (wkGoodV (List.mem_of_getElem? (i := 5) rfl) (List.mem_of_getElem? (i := 6) rfl) (List.mem_of_getElem? (i := 7) rfl) (List.mem_of_getElem? (i := 4) rfl) hbX4_carriesFlows_X3_addTo gdX3_addTo) (Nat.le_trans (by decide : 0 + 1 ≤ 2) hd) (by decide) (hXS13 _ _ (hXS8 _ _ (hXS3 _ _ hl2A))).1 (fun cy => wAt_3 cy _ (hXS13 _ _ (hXS8 _ _ (hXS3 _ _ hl2A))).2) rfl ⟨by decide, by decide, by decide +kernel⟩ rfl rfl (Nat.le_of_ble_eq_true rfl) (Nat.le_refl 0) (Nat.le_refl 0) dX4_carriesFlows_92 (fun v' S18 hp => ?_)
        obtain ⟨v17, rfl, h, hWS18, hXS18⟩ := hp
        obtain ⟨x22, ex22, h⟩ := wkLt_some h
        refine wk_iinc C (lv' := [none, some (.ref l1A), some (.ref l2A), some (.int l3I), none, some (.int x22)]) dX4_carriesFlows_95 rfl (by rw [ex22]; rfl) (by decide) rfl ?_
        refine wk_goto C (tgt := 59) dX4_carriesFlows_98 (by decide) ?_
        exact wk_forget (lv' := [none, some (.ref l1A), some (.ref l2A), some (.int l3I), none, some (.int x22)]) (wkLs.le ⟨rfl, rfl, rfl, rfl, trivial⟩) (ih.1 _ _ _ _ _ hWS18 (wkExt.tr (wkExt.tr (wkExt.tr (wkExt.tr hE hXS3) hXS8) hXS13) hXS18) (hXS18 _ _ (hXS13 _ _ (hXS8 _ _ (hXS3 _ _ hl1A)))) (hXS18 _ _ (hXS13 _ _ (hXS8 _ _ (hXS3 _ _ hl2A)))) h)
    · intro l1A l2A l5I S hW hE hl1A hl2A h
      have h : rX4_carriesFlows_b1 F (rX4_carriesFlows_go F k') l1A l2A l5I S Φ := by
        rw [rX4_carriesFlows_go, if_neg (show ¬ (1 : Nat) = 0 by decide), if_pos (rfl : (1 : Nat) = 1)] at h
        exact h
      unfold rX4_carriesFlows_b1 at h
      refine wk_iload C dX4_carriesFlows_104 rfl ?_
      refine wk_aload_n C dX4_carriesFlows_106 rfl rfl ?_
      refine wk_get C (v := .int (gEntry_size S l1A)) huX4_carriesFlows_3 hl1A.1 (fun cy => wAt_3 cy _ hl1A.2) rfl 1 (by decide) (List.mem_of_getElem? (i := 11) rfl) rfl rfl dX4_carriesFlows_107 ?_
      refine wk_iconst C (v := 1) dX4_carriesFlows_110 (by decide) ?_
      refine wk_isub C dX4_carriesFlows_111 rfl ?_
      refine wk_icmp_ge C (tgt := 139) dX4_carriesFlows_112 (by decide) (fun c23 => ?_) (fun c23 => ?_)
      · rw [if_pos c23] at h
        refine wk_aload_n C dX4_carriesFlows_139 rfl rfl ?_
        refine wk_aload_n C dX4_carriesFlows_140 rfl rfl ?_
        refine wk_iconst C (v := 0) dX4_carriesFlows_141 (by decide) ?_
        refine wk_iconst C (v := 1) dX4_carriesFlows_142 (by decide) ?_
        refine wk_aload_n C dX4_carriesFlows_143 rfl rfl ?_
        refine wk_get C (v := .int (gEntry_boundNow S l1A)) huX4_carriesFlows_3 hl1A.1 (fun cy => wAt_3 cy _ hl1A.2) rfl 8 (by decide) (List.mem_of_getElem? (i := 12) rfl) rfl rfl dX4_carriesFlows_144 ?_
        refine wk_callW C hR (As := [.ref l1A, .ref l2A, .int (0 : Int32), .int (1 : Int32), .int (gEntry_boundNow S l1A)]) (cnt := 5) (tX4_addBalance (l := l) hW hl1A hl2A h) rfl (wkGoodW (List.mem_of_getElem? (i := 13) rfl) (List.mem_of_getElem? (i := 14) rfl) (List.mem_of_getElem? (i := 15) rfl) hbX4_carriesFlows_X4_addBalance gdX4_addBalance) (Nat.le_trans (by decide : 1 + 1 ≤ 2) hd) (by decide) ⟨by decide, by decide, by decide +kernel⟩ rfl rfl (Nat.le_of_ble_eq_true rfl) (Nat.le_refl 0) (Nat.le_refl 0) dX4_carriesFlows_147 (fun v' S25 hp => ?_)
        obtain ⟨v24, rfl, h, hWS25, hXS25⟩ := hp
        refine wk_aload_n C dX4_carriesFlows_150 rfl rfl ?_
        refine wk_aload_n C dX4_carriesFlows_151 rfl rfl ?_
        refine wk_iconst C (v := 0) dX4_carriesFlows_152 (by decide) ?_
        refine wk_iconst C (v := (-1)) dX4_carriesFlows_153 (by decide) ?_
        refine wk_aload_n C dX4_carriesFlows_154 rfl rfl ?_
        refine wk_get C (v := .int (gEntry_boundNow S25 l1A)) huX4_carriesFlows_3 (hXS25 _ _ hl1A).1 (fun cy => wAt_3 cy _ (hXS25 _ _ hl1A).2) rfl 8 (by decide) (List.mem_of_getElem? (i := 12) rfl) rfl rfl dX4_carriesFlows_155 ?_
        refine wk_ineg C dX4_carriesFlows_158 rfl ?_
        refine wk_callW C hR (As := [.ref l1A, .ref l2A, .int (0 : Int32), .int (-1 : Int32), .int (-(gEntry_boundNow S25 l1A))]) (cnt := 5) (tX4_addBalance (l := l) hWS25 (hXS25 _ _ hl1A) (hXS25 _ _ hl2A) h) rfl (wkGoodW (List.mem_of_getElem? (i := 13) rfl) (List.mem_of_getElem? (i := 14) rfl) (List.mem_of_getElem? (i := 15) rfl) hbX4_carriesFlows_X4_addBalance gdX4_addBalance) (Nat.le_trans (by decide : 1 + 1 ≤ 2) hd) (by decide) ⟨by decide, by decide, by decide +kernel⟩ rfl rfl (Nat.le_of_ble_eq_true rfl) (Nat.le_refl 0) (Nat.le_refl 0) dX4_carriesFlows_159 (fun v' S30 hp => ?_)
        obtain ⟨v29, rfl, h, hWS30, hXS30⟩ := hp
        refine wk_iconst C (v := 1) dX4_carriesFlows_162 (by decide) ?_
        exact E _ _ _ _ _ _ (Nat.le_refl 0) (Nat.le_refl 0) dX4_carriesFlows_163 rfl ⟨(1 : Int32), rfl, h, hWS30, (wkExt.tr (wkExt.tr hE hXS25) hXS30)⟩
      · rw [if_neg c23] at h
        refine wk_aload_n C dX4_carriesFlows_115 rfl rfl ?_
        refine wk_aload_n C dX4_carriesFlows_116 rfl rfl ?_
        refine wk_iload C dX4_carriesFlows_117 rfl ?_
        refine wk_iconst C (v := (-1)) dX4_carriesFlows_119 (by decide) ?_
        refine wk_iconst C (v := 0) dX4_carriesFlows_120 (by decide) ?_
        refine wk_callW C hR (As := [.ref l1A, .ref l2A, .int l5I, .int (-1 : Int32), .int (0 : Int32)]) (cnt := 5) (tX4_addBalance (l := l) hW hl1A hl2A h) rfl (wkGoodW (List.mem_of_getElem? (i := 13) rfl) (List.mem_of_getElem? (i := 14) rfl) (List.mem_of_getElem? (i := 15) rfl) hbX4_carriesFlows_X4_addBalance gdX4_addBalance) (Nat.le_trans (by decide : 1 + 1 ≤ 2) hd) (by decide) ⟨by decide, by decide, by decide +kernel⟩ rfl rfl (Nat.le_of_ble_eq_true rfl) (Nat.le_refl 0) (Nat.le_refl 0) dX4_carriesFlows_121 (fun v' S35 hp => ?_)
        obtain ⟨v34, rfl, h, hWS35, hXS35⟩ := hp
        refine wk_aload_n C dX4_carriesFlows_124 rfl rfl ?_
        refine wk_aload_n C dX4_carriesFlows_125 rfl rfl ?_
        refine wk_iload C dX4_carriesFlows_126 rfl ?_
        refine wk_iconst C (v := 1) dX4_carriesFlows_128 (by decide) ?_
        refine wk_iconst C (v := 0) dX4_carriesFlows_129 (by decide) ?_
        refine wk_callW C hR (As := [.ref l1A, .ref l2A, .int l5I, .int (1 : Int32), .int (0 : Int32)]) (cnt := 5) (tX4_addBalance (l := l) hWS35 (hXS35 _ _ hl1A) (hXS35 _ _ hl2A) h) rfl (wkGoodW (List.mem_of_getElem? (i := 13) rfl) (List.mem_of_getElem? (i := 14) rfl) (List.mem_of_getElem? (i := 15) rfl) hbX4_carriesFlows_X4_addBalance gdX4_addBalance) (Nat.le_trans (by decide : 1 + 1 ≤ 2) hd) (by decide) ⟨by decide, by decide, by decide +kernel⟩ rfl rfl (Nat.le_of_ble_eq_true rfl) (Nat.le_refl 0) (Nat.le_refl 0) dX4_carriesFlows_130 (fun v' S40 hp => ?_)
        obtain ⟨v39, rfl, h, hWS40, hXS40⟩ := hp
        obtain ⟨x44, ex44, h⟩ := wkLt_some h
        refine wk_iinc C (lv' := [none, some (.ref l1A), some (.ref l2A), none, none, some (.int x44)]) dX4_carriesFlows_133 rfl (by rw [ex44]; rfl) (by decide) rfl ?_
        refine wk_goto C (tgt := 104) dX4_carriesFlows_136 (by decide) ?_
        exact wk_forget (lv' := [none, some (.ref l1A), some (.ref l2A), none, none, some (.int x44)]) (wkLs.le ⟨rfl, rfl, rfl, trivial⟩) (ih.2 _ _ _ _ hWS40 (wkExt.tr (wkExt.tr hE hXS35) hXS40) (hXS40 _ _ (hXS35 _ _ hl1A)) (hXS40 _ _ (hXS35 _ _ hl2A)) h)
set_option maxHeartbeats 4000000 in
set_option maxRecDepth 100000 in
theorem tX4_carriesFlows {l : Launch} {g : wkG} {F : Nat}  {S : wPS} {l0A : Nat} {l1A : Nat} {l2A : Nat} {Φ : (Int32 → wPS → Prop)} (hst : wkSta g) (hW : wkWF S) (hl0A : wkIs S l0A 4) (hl1A : wkIs S l1A 3) (hl2A : wkIs S l2A 3) (h : rX4_carriesFlows F l0A l1A l2A S Φ) : wkMet l g yX4_carriesFlows wvX4_carriesFlows 2 0 0 [.ref l0A, .ref l1A, .ref l2A] S (fun v' S'' => ∃ v : Int32, v' = some (.int v) ∧ Φ v S'' ∧ wkWF S'' ∧ wkExt S S'') := by
  refine wkMet_of (ret := (some .boolean)) (by decide) rfl (Nat.le_of_ble_eq_true rfl) (fun X hg C hR E => ?_)
  subst hg
  have hE : wkExt S S := wkExt.rf
  have hd : 2 ≤ 2 := Nat.le_refl _
  show wkGo l X 6 0 0 0 S [some (.ref l0A), some (.ref l1A), some (.ref l2A), none, none, none] []
  have ih := tX4_carriesFlows_go (F := F) hst C hR hd E F
  have h : rX4_carriesFlows_s F (rX4_carriesFlows_go F F) l0A l1A l2A S Φ := h
  unfold rX4_carriesFlows_s at h
  refine wk_aload_n C dX4_carriesFlows_0 rfl rfl ?_
  refine wk_get C (v := .int (gEntry_itemCount S l1A)) huX4_carriesFlows_3 hl1A.1 (fun cy => wAt_3 cy _ hl1A.2) rfl 6 (by decide) (List.mem_of_getElem? (i := 16) rfl) rfl rfl dX4_carriesFlows_1 ?_
  obtain ⟨x45, ex45, h⟩ := wkLt_some h
  refine wk_topi ex45 ?_
  refine wk_istore_n C (lv' := [some (.ref l0A), some (.ref l1A), some (.ref l2A), some (.int x45), none, none]) dX4_carriesFlows_4 rfl (by decide) rfl ?_
  refine wk_iload_n C dX4_carriesFlows_5 rfl rfl ?_
  refine wk_iconst C (v := 2) dX4_carriesFlows_6 (by decide) ?_
  refine wk_aload_n C dX4_carriesFlows_7 rfl rfl ?_
  refine wk_get C (v := .int (gEntry_size S l1A)) huX4_carriesFlows_3 hl1A.1 (fun cy => wAt_3 cy _ hl1A.2) rfl 1 (by decide) (List.mem_of_getElem? (i := 11) rfl) rfl rfl dX4_carriesFlows_8 ?_
  refine wk_iconst C (v := 2) dX4_carriesFlows_11 (by decide) ?_
  refine wk_isub C dX4_carriesFlows_12 rfl ?_
  refine wk_imul C dX4_carriesFlows_13 rfl ?_
  refine wk_iadd C dX4_carriesFlows_14 rfl ?_
  refine wk_iconst C (v := 2) dX4_carriesFlows_15 (by decide) ?_
  refine wk_iadd C dX4_carriesFlows_16 rfl ?_
  obtain ⟨x46, ex46, h⟩ := wkLt_some h
  refine wk_topi ex46 ?_
  refine wk_istore C (lv' := [some (.ref l0A), some (.ref l1A), some (.ref l2A), some (.int x45), some (.int x46), none]) dX4_carriesFlows_17 (by decide) rfl ?_
  refine wk_iload_n C dX4_carriesFlows_19 rfl rfl ?_
  refine wk_iconst C (v := 1) dX4_carriesFlows_20 (by decide) ?_
  refine wk_icmp_lt C (tgt := 43) dX4_carriesFlows_21 (by decide) (fun c47 => ?_) (fun c47 => ?_)
  · rw [if_pos c47] at h
    refine wk_iconst C (v := 0) dX4_carriesFlows_43 (by decide) ?_
    exact E _ _ _ _ _ _ (Nat.le_refl 0) (Nat.le_refl 0) dX4_carriesFlows_44 rfl ⟨(0 : Int32), rfl, h, hW, hE⟩
  · rw [if_neg c47] at h
    refine wk_iload_n C dX4_carriesFlows_24 rfl rfl ?_
    refine wk_getsN C rfl hst (i := 1) (by decide) (by decide) dX4_carriesFlows_25 ?_
    refine wk_iconst C (v := 3) dX4_carriesFlows_28 (by decide) ?_
    obtain ⟨i48, h⟩ := h
    refine wk_tabld C hst (i := 1) (by decide) i48 rfl dX4_carriesFlows_29 ?_
    refine wk_icmp_gt C (tgt := 43) dX4_carriesFlows_30 (by decide) (fun c49 => ?_) (fun c49 => ?_)
    · rw [if_pos c49] at h
      refine wk_iconst C (v := 0) dX4_carriesFlows_43 (by decide) ?_
      exact E _ _ _ _ _ _ (Nat.le_refl 0) (Nat.le_refl 0) dX4_carriesFlows_44 rfl ⟨(0 : Int32), rfl, h, hW, hE⟩
    · rw [if_neg c49] at h
      refine wk_iload C dX4_carriesFlows_33 rfl ?_
      refine wk_getsN C rfl hst (i := 4) (by decide) (by decide) dX4_carriesFlows_35 ?_
      refine wk_iconst C (v := 3) dX4_carriesFlows_38 (by decide) ?_
      obtain ⟨i50, h⟩ := h
      refine wk_tabld C hst (i := 4) (by decide) i50 rfl dX4_carriesFlows_39 ?_
      refine wk_icmp_le C (tgt := 45) dX4_carriesFlows_40 (by decide) (fun c51 => ?_) (fun c51 => ?_)
      · rw [if_pos c51] at h
        refine wk_aload_n C dX4_carriesFlows_45 rfl rfl ?_
        refine wk_iconst C (v := 3) dX4_carriesFlows_46 (by decide) ?_
        refine wk_iload_n C dX4_carriesFlows_47 rfl rfl ?_
        refine wk_getsN C rfl hst (i := 3) (by decide) (by decide) dX4_carriesFlows_48 ?_
        refine wk_iconst C (v := 3) dX4_carriesFlows_51 (by decide) ?_
        obtain ⟨i52, h⟩ := h
        refine wk_tabld C hst (i := 3) (by decide) i52 rfl dX4_carriesFlows_52 ?_
        refine wk_callV C hR (As := [.int (3 : Int32), .int x45, .int (wkTab 3 ((3 : Int32)).toNatClampNeg)]) (cnt := 3) (tX3_begin (l := l) hW hl2A h) rfl (wkGoodV (List.mem_of_getElem? (i := 17) rfl) (List.mem_of_getElem? (i := 18) rfl) (List.mem_of_getElem? (i := 19) rfl) (List.mem_of_getElem? (i := 4) rfl) hbX4_carriesFlows_X3_begin gdX3_begin) (Nat.le_trans (by decide : 0 + 1 ≤ 2) hd) (by decide) hl2A.1 (fun cy => wAt_3 cy _ hl2A.2) rfl ⟨by decide, by decide, by decide +kernel⟩ rfl rfl (Nat.le_of_ble_eq_true rfl) (Nat.le_refl 0) (Nat.le_refl 0) dX4_carriesFlows_53 (fun v' S54 hp => ?_)
        obtain ⟨v53, rfl, h, hWS54, hXS54⟩ := hp
        refine wk_iconst C (v := 0) dX4_carriesFlows_56 (by decide) ?_
        refine wk_istore C (lv' := [some (.ref l0A), some (.ref l1A), some (.ref l2A), some (.int x45), some (.int x46), some (.int (0 : Int32))]) dX4_carriesFlows_57 (by decide) rfl ?_
        exact wk_forget (lv' := [none, some (.ref l1A), some (.ref l2A), some (.int x45), none, some (.int (0 : Int32))]) (wkLs.le ⟨rfl, rfl, rfl, rfl, trivial⟩) (ih.1 _ _ _ _ _ hWS54 (wkExt.tr hE hXS54) (hXS54 _ _ hl1A) (hXS54 _ _ hl2A) h)
      · rw [if_neg c51] at h
        refine wk_iconst C (v := 0) dX4_carriesFlows_43 (by decide) ?_
        exact E _ _ _ _ _ _ (Nat.le_refl 0) (Nat.le_refl 0) dX4_carriesFlows_44 rfl ⟨(0 : Int32), rfl, h, hW, hE⟩
