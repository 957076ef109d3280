def wvX10_loadPoints : List Cond := .code yX10_loadPoints cX10_loadPoints 5 none :: (([.fieldLink RX10 67 "Witnessworks$Entry" "size" "I", .methodLink RX10 91 yX3_at, .instanceMethod yX3_at, .selects RX3 yX3_at yX3_at, .initialized RX3] : List Cond) ++ ((wsX30) ++ (wvX3_at)))
theorem huX10_loadPoints_3 : ∀ w ∈ u_ws RX3 TX3 17, w ∈ wvX10_loadPoints := fun w h => List.mem_cons_of_mem _ (List.mem_append_right _ (List.mem_append_left _ h))
theorem hbX10_loadPoints_X3_at : ∀ w ∈ wvX3_at, w ∈ wvX10_loadPoints := fun w h => List.mem_cons_of_mem _ (List.mem_append_right _ (List.mem_append_right _ h))
theorem gdX10_loadPoints : ∀ w ∈ wvX10_loadPoints, wkGd w := wkGdC rfl (wkGdA (wkGdL (by decide +kernel)) (wkGdA gdX3 gdX3_at))
def rX10_loadPoints_b0 (F : Nat) (rec : Nat → Nat → Int32 → Nat → Int32 → Int32 → wPS → (Unit → wPS → Prop) → Prop) (l0A : Nat) (l1I : Int32) (l2A : Nat) (l3I : Int32) (l4I : Int32) (S : wPS) (Φ : (Unit → wPS → Prop)) : Prop :=
  if (gEntry_size S l0A) ≤ l4I then (if (gEntry_size S l0A) = (6 : Int32) then (¬ ((5 : Int32) < 0 ∨ S.len l2A ≤ ((5 : Int32)).toNatClampNeg) ∧ wkLt (wuI S l2A (5 : Int32) l3I) fun S4 => Φ () S4) else (Φ () S)) else (if (5 : Int32) ≤ l4I then (if (gEntry_size S l0A) = (6 : Int32) then (¬ ((5 : Int32) < 0 ∨ S.len l2A ≤ ((5 : Int32)).toNatClampNeg) ∧ wkLt (wuI S l2A (5 : Int32) l3I) fun S8 => Φ () S8) else (Φ () S)) else (rX3_at F l0A l1I l4I S fun v9 S10 => ¬ (l4I < 0 ∨ S10.len l2A ≤ (l4I).toNatClampNeg) ∧ wkLt (wuI S10 l2A l4I v9) fun S15 => ¬ (l4I < 0 ∨ S15.len l2A ≤ (l4I).toNatClampNeg) ∧ wkLt ((l3I - (S15.rI l2A (l4I).toNatClampNeg))) fun x17 => wkLt (l4I + (1 : Int32)) fun x18 => rec 0 l0A l1I l2A x17 x18 S15 Φ))
def rX10_loadPoints_go (F : Nat) : Nat → Nat → Nat → Int32 → Nat → Int32 → Int32 → wPS → (Unit → wPS → Prop) → Prop
  | 0, _, _, _, _, _, _, _, _ => False
  | k' + 1, lab, l0A, l1I, l2A, l3I, l4I, S, Φ => if lab = 0 then rX10_loadPoints_b0 F (rX10_loadPoints_go F k') l0A l1I l2A l3I l4I S Φ else False
def rX10_loadPoints_s (F : Nat) (rec : Nat → Nat → Int32 → Nat → Int32 → Int32 → wPS → (Unit → wPS → Prop) → Prop) (l0A : Nat) (l1I : Int32) (l2A : Nat) (S : wPS) (Φ : (Unit → wPS → Prop)) : Prop :=
  rec 0 l0A l1I l2A (15 : Int32) (0 : Int32) S Φ
def rX10_loadPoints (F : Nat) (l0A : Nat) (l1I : Int32) (l2A : Nat) (S : wPS) (Φ : (Unit → wPS → Prop)) : Prop := rX10_loadPoints_s F (rX10_loadPoints_go F F) l0A l1I l2A S Φ
set_option maxHeartbeats 4000000 in
set_option maxRecDepth 100000 in
theorem tX10_loadPoints_go {l : Launch} {X : wkX} {d F : Nat} {S0 : wPS} {Φ : (Unit → wPS → Prop)} (C : wkC X cX10_loadPoints RX10 5 wvX10_loadPoints) (hR : wkRm X d 0 0) (hd : 1 ≤ d) (E : wkEnd l X cX10_loadPoints 5 none 0 0 (fun v' S'' => ∃ v : Unit, v' = none ∧ Φ v S'' ∧ wkWF S'' ∧ wkExt S0 S'')) : ∀ k' : Nat, (∀ (l0A : Nat) (l1I : Int32) (l2A : Nat) (l3I : Int32) (l4I : Int32) (S : wPS), wkWF S → wkExt S0 S → wkIs S l0A 3 → wkIs S l2A 13 → rX10_loadPoints_go F k' 0 l0A l1I l2A l3I l4I S Φ → wkGo l X 5 0 0 6 S [some (.ref l0A), some (.int l1I), some (.ref l2A), some (.int l3I), some (.int l4I)] []) := by
  intro k'
  induction k' with
  | zero => exact fun l0A l1I l2A l3I l4I S hW hE hl0A hl2A h => h.elim
  | succ k' ih =>
    · intro l0A l1I l2A l3I l4I S hW hE hl0A hl2A h
      have h : rX10_loadPoints_b0 F (rX10_loadPoints_go F k') l0A l1I l2A l3I l4I S Φ := by
        rw [rX10_loadPoints_go, if_pos (rfl : (0 : Nat) = 0)] at h
        exact h
      unfold rX10_loadPoints_b0 at h
      refine wk_iload C dX10_loadPoints_6 rfl ?_
      refine wk_aload_n C dX10_loadPoints_8 rfl rfl ?_
      refine wk_get C (v := .int (gEntry_size S l0A)) huX10_loadPoints_3 hl0A.1 (fun cy => wAt_3 cy _ hl0A.2) rfl 1 (by decide) (List.mem_of_getElem? (i := 1) rfl) rfl rfl dX10_loadPoints_9 ?_
      refine wk_icmp_ge C (tgt := 45) dX10_loadPoints_12 (by decide) (fun c1 => ?_) (fun c1 => ?_)
      · rw [if_pos c1] at h
        refine wk_aload_n C dX10_loadPoints_45 rfl rfl ?_
        refine wk_get C (v := .int (gEntry_size S l0A)) huX10_loadPoints_3 hl0A.1 (fun cy => wAt_3 cy _ hl0A.2) rfl 1 (by decide) (List.mem_of_getElem? (i := 1) rfl) rfl rfl dX10_loadPoints_46 ?_
        refine wk_bipush C (v := 6) dX10_loadPoints_49 (by decide) ?_
        refine wk_icmp_ne C (tgt := 58) dX10_loadPoints_51 (by decide) (fun c2 => ?_) (fun c2 => ?_)
        · rw [if_neg c2] at h
          exact E _ _ _ _ _ (Nat.le_refl 0) (Nat.le_refl 0) dX10_loadPoints_58 ⟨(), rfl, h, hW, hE⟩
        · rw [if_pos c2] at h
          refine wk_aload_n C dX10_loadPoints_54 rfl rfl ?_
          refine wk_iconst C (v := 5) dX10_loadPoints_55 (by decide) ?_
          refine wk_iload_n C dX10_loadPoints_56 rfl rfl ?_
          obtain ⟨i3, h⟩ := h
          obtain ⟨S4, eS4, h⟩ := wkLt_some h
          refine wk_iast C hl2A.1 hl2A.2 i3 eS4.symm dX10_loadPoints_57 ?_
          have hWS4 : wkWF S4 := by rw [eS4]; exact hW
          have hXS4 : wkExt S S4 := by rw [eS4]; exact wkExt.rf
          exact E _ _ _ _ _ (Nat.le_refl 0) (Nat.le_refl 0) dX10_loadPoints_58 ⟨(), rfl, h, hWS4, (wkExt.tr hE hXS4)⟩
      · rw [if_neg c1] at h
        refine wk_iload C dX10_loadPoints_15 rfl ?_
        refine wk_iconst C (v := 5) dX10_loadPoints_17 (by decide) ?_
        refine wk_icmp_ge C (tgt := 45) dX10_loadPoints_18 (by decide) (fun c5 => ?_) (fun c5 => ?_)
        · rw [if_pos c5] at h
          refine wk_aload_n C dX10_loadPoints_45 rfl rfl ?_
          refine wk_get C (v := .int (gEntry_size S l0A)) huX10_loadPoints_3 hl0A.1 (fun cy => wAt_3 cy _ hl0A.2) rfl 1 (by decide) (List.mem_of_getElem? (i := 1) rfl) rfl rfl dX10_loadPoints_46 ?_
          refine wk_bipush C (v := 6) dX10_loadPoints_49 (by decide) ?_
          refine wk_icmp_ne C (tgt := 58) dX10_loadPoints_51 (by decide) (fun c6 => ?_) (fun c6 => ?_)
          · rw [if_neg c6] at h
            exact E _ _ _ _ _ (Nat.le_refl 0) (Nat.le_refl 0) dX10_loadPoints_58 ⟨(), rfl, h, hW, hE⟩
          · rw [if_pos c6] at h
            refine wk_aload_n C dX10_loadPoints_54 rfl rfl ?_
            refine wk_iconst C (v := 5) dX10_loadPoints_55 (by decide) ?_
            refine wk_iload_n C dX10_loadPoints_56 rfl rfl ?_
            obtain ⟨i7, h⟩ := h
            obtain ⟨S8, eS8, h⟩ := wkLt_some h
            refine wk_iast C hl2A.1 hl2A.2 i7 eS8.symm dX10_loadPoints_57 ?_
            have hWS8 : wkWF S8 := by rw [eS8]; exact hW
            have hXS8 : wkExt S S8 := by rw [eS8]; exact wkExt.rf
            exact E _ _ _ _ _ (Nat.le_refl 0) (Nat.le_refl 0) dX10_loadPoints_58 ⟨(), rfl, h, hWS8, (wkExt.tr hE hXS8)⟩
        · rw [if_neg c5] at h
          refine wk_aload_n C dX10_loadPoints_21 rfl rfl ?_
          refine wk_iload C dX10_loadPoints_22 rfl ?_
          refine wk_aload_n C dX10_loadPoints_24 rfl rfl ?_
          refine wk_iload_n C dX10_loadPoints_25 rfl rfl ?_
          refine wk_iload C dX10_loadPoints_26 rfl ?_
          refine wk_callV C hR (As := [.int l1I, .int l4I]) (cnt := 2) (tX3_at (l := l) hW hl0A h) rfl (wkGoodV (List.mem_of_getElem? (i := 2) rfl) (List.mem_of_getElem? (i := 3) rfl) (List.mem_of_getElem? (i := 4) rfl) (List.mem_of_getElem? (i := 5) rfl) hbX10_loadPoints_X3_at gdX3_at) (Nat.le_trans (by decide : 0 + 1 ≤ 1) hd) (by decide) hl0A.1 (fun cy => wAt_3 cy _ hl0A.2) rfl ⟨by decide, by decide, by decide +kernel⟩ rfl rfl (Nat.le_of_ble_eq_true rfl) (Nat.le_refl 0) (Nat.le_refl 0) dX10_loadPoints_28 (fun v' S10 hp => ?_)
          obtain ⟨v9, rfl, h, hWS10, hXS10⟩ := hp
          obtain ⟨i14, h⟩ := h
          obtain ⟨S15, eS15, h⟩ := wkLt_some h
          refine wk_iast C (hXS10 _ _ hl2A).1 (hXS10 _ _ hl2A).2 i14 eS15.symm dX10_loadPoints_31 ?_
          have hWS15 : wkWF S15 := by rw [eS15]; exact hWS10
          have hXS15 : wkExt S10 S15 := by rw [eS15]; exact wkExt.rf
          refine wk_iload_n C dX10_loadPoints_32 rfl rfl ?_
          refine wk_aload_n C dX10_loadPoints_33 rfl rfl ?_
          refine wk_iload C dX10_loadPoints_34 rfl ?_
          obtain ⟨i16, h⟩ := h
          refine wk_iald C (hXS15 _ _ (hXS10 _ _ hl2A)).1 (hXS15 _ _ (hXS10 _ _ hl2A)).2 i16 rfl dX10_loadPoints_36 ?_
          refine wk_isub C dX10_loadPoints_37 rfl ?_
          obtain ⟨x17, ex17, h⟩ := wkLt_some h
          refine wk_topi ex17 ?_
          refine wk_istore_n C (lv' := [some (.ref l0A), some (.int l1I), some (.ref l2A), some (.int x17), some (.int l4I)]) dX10_loadPoints_38 rfl (by decide) rfl ?_
          obtain ⟨x18, ex18, h⟩ := wkLt_some h
          refine wk_iinc C (lv' := [some (.ref l0A), some (.int l1I), some (.ref l2A), some (.int x17), some (.int x18)]) dX10_loadPoints_39 rfl (by rw [ex18]; rfl) (by decide) rfl ?_
          refine wk_goto C (tgt := 6) dX10_loadPoints_42 (by decide) ?_
          exact wk_forget (lv' := [some (.ref l0A), some (.int l1I), some (.ref l2A), some (.int x17), some (.int x18)]) (wkLs.le ⟨rfl, rfl, rfl, rfl, rfl, trivial⟩) (ih _ _ _ _ _ _ hWS15 (wkExt.tr (wkExt.tr hE hXS10) hXS15) (hXS15 _ _ (hXS10 _ _ hl0A)) (hXS15 _ _ (hXS10 _ _ hl2A)) h)
set_option maxHeartbeats 4000000 in
set_option maxRecDepth 100000 in
theorem tX10_loadPoints {l : Launch} {g : wkG} {F : Nat}  {S : wPS} {l0A : Nat} {l1I : Int32} {l2A : Nat} {Φ : (Unit → wPS → Prop)} (hW : wkWF S) (hl0A : wkIs S l0A 3) (hl2A : wkIs S l2A 13) (h : rX10_loadPoints F l0A l1I l2A S Φ) : wkMet l g yX10_loadPoints wvX10_loadPoints 1 0 0 [.ref l0A, .int l1I, .ref l2A] S (fun v' S'' => ∃ v : Unit, v' = none ∧ Φ v S'' ∧ wkWF S'' ∧ wkExt S S'') := by
  refine wkMet_of (ret := none) (by decide) rfl (Nat.le_of_ble_eq_true rfl) (fun X hg C hR E => ?_)
  subst hg
  have hE : wkExt S S := wkExt.rf
  have hd : 1 ≤ 1 := Nat.le_refl _
  show wkGo l X 5 0 0 0 S [some (.ref l0A), some (.int l1I), some (.ref l2A), none, none] []
  have ih := tX10_loadPoints_go (F := F) C hR hd E F
  have h : rX10_loadPoints_s F (rX10_loadPoints_go F F) l0A l1I l2A S Φ := h
  unfold rX10_loadPoints_s at h
  refine wk_bipush C (v := 15) dX10_loadPoints_0 (by decide) ?_
  refine wk_istore_n C (lv' := [some (.ref l0A), some (.int l1I), some (.ref l2A), some (.int (15 : Int32)), none]) dX10_loadPoints_2 rfl (by decide) rfl ?_
  refine wk_iconst C (v := 0) dX10_loadPoints_3 (by decide) ?_
  refine wk_istore C (lv' := [some (.ref l0A), some (.int l1I), some (.ref l2A), some (.int (15 : Int32)), some (.int (0 : Int32))]) dX10_loadPoints_4 (by decide) rfl ?_
  exact wk_forget (lv' := [some (.ref l0A), some (.int l1I), some (.ref l2A), some (.int (15 : Int32)), some (.int (0 : Int32))]) (wkLs.le ⟨rfl, rfl, rfl, rfl, rfl, trivial⟩) (ih _ _ _ _ _ _ hW hE hl0A hl2A h)
def wvX10_rankOf : List Cond := .code yX10_rankOf cX10_rankOf 6 (some .int) :: (([.fieldLink RX10 71 "Witnessworks$Words" "size" "I"] : List Cond) ++ ((wsX100) ++ ([])))
theorem huX10_rankOf_10 : ∀ w ∈ u_ws RX10 TX10 12, w ∈ wvX10_rankOf := fun w h => List.mem_cons_of_mem _ (List.mem_append_right _ (List.mem_append_left _ h))
theorem gdX10_rankOf : ∀ w ∈ wvX10_rankOf, wkGd w := wkGdC rfl (wkGdA (wkGdL (by decide +kernel)) (wkGdA gdX10 (fun _ h => absurd h List.not_mem_nil)))
def rX10_rankOf_b0 (F : Nat) (rec : Nat → Nat → Nat → Int32 → Int32 → Int32 → Int32 → wPS → (Int32 → wPS → Prop) → Prop) (l0A : Nat) (l1A : Nat) (l2I : Int32) (l3I : Int32) (S : wPS) (Φ : (Int32 → wPS → Prop)) : Prop :=
  if (gWords_size S l0A) ≤ l3I then (Φ l2I S) else (wkLt ((l3I + (1 : Int32))) fun x2 => rec 1 l0A l1A l2I l3I (0 : Int32) x2 S Φ)
def rX10_rankOf_b1 (F : Nat) (rec : Nat → Nat → Nat → Int32 → Int32 → Int32 → Int32 → wPS → (Int32 → wPS → Prop) → Prop) (l0A : Nat) (l1A : Nat) (l2I : Int32) (l3I : Int32) (l4I : Int32) (l5I : Int32) (S : wPS) (Φ : (Int32 → wPS → Prop)) : Prop :=
  if (gWords_size S l0A) ≤ l5I then (wkLt (((l2I * ((gWords_size S l0A) - l3I)) + l4I)) fun x4 => wkLt (l3I + (1 : Int32)) fun x5 => rec 0 l0A l1A x4 x5 0 0 S Φ) else (¬ (l5I < 0 ∨ S.len l1A ≤ (l5I).toNatClampNeg) ∧ ¬ (l3I < 0 ∨ S.len l1A ≤ (l3I).toNatClampNeg) ∧ if (S.rI l1A (l3I).toNatClampNeg) ≤ (S.rI l1A (l5I).toNatClampNeg) then (wkLt (l5I + (1 : Int32)) fun x9 => rec 1 l0A l1A l2I l3I l4I x9 S Φ) else (wkLt (l4I + (1 : Int32)) fun x10 => wkLt (l5I + (1 : Int32)) fun x11 => rec 1 l0A l1A l2I l3I x10 x11 S Φ))
def rX10_rankOf_go (F : Nat) : Nat → Nat → Nat → Nat → Int32 → Int32 → Int32 → Int32 → wPS → (Int32 → wPS → Prop) → Prop
  | 0, _, _, _, _, _, _, _, _, _ => False
  | k' + 1, lab, l0A, l1A, l2I, l3I, l4I, l5I, S, Φ => if lab = 0 then rX10_rankOf_b0 F (rX10_rankOf_go F k') l0A l1A l2I l3I S Φ else if lab = 1 then rX10_rankOf_b1 F (rX10_rankOf_go F k') l0A l1A l2I l3I l4I l5I S Φ else False
def rX10_rankOf_s (F : Nat) (rec : Nat → Nat → Nat → Int32 → Int32 → Int32 → Int32 → wPS → (Int32 → wPS → Prop) → Prop) (l0A : Nat) (l1A : Nat) (S : wPS) (Φ : (Int32 → wPS → Prop)) : Prop :=
  rec 0 l0A l1A (0 : Int32) (0 : Int32) 0 0 S Φ
def rX10_rankOf (F : Nat) (l0A : Nat) (l1A : Nat) (S : wPS) (Φ : (Int32 → wPS → Prop)) : Prop := rX10_rankOf_s F (rX10_rankOf_go F F) l0A l1A S Φ
set_option maxHeartbeats 4000000 in
set_option maxRecDepth 100000 in
theorem tX10_rankOf_go {l : Launch} {X : wkX} {d F : Nat} {S0 : wPS} {Φ : (Int32 → wPS → Prop)} (C : wkC X cX10_rankOf RX10 6 wvX10_rankOf) (hR : wkRm X d 0 0) (hd : 0 ≤ d) (E : wkEnd l X cX10_rankOf 6 (some .int) 0 0 (fun v' S'' => ∃ v : Int32, v' = some (.int v) ∧ Φ v S'' ∧ wkWF S'' ∧ wkExt S0 S'')) : ∀ k' : Nat, (∀ (l0A : Nat) (l1A : Nat) (l2I : Int32) (l3I : Int32) (S : wPS), wkWF S → wkExt S0 S → wkIs S l0A 10 → wkIs S l1A 13 → rX10_rankOf_go F k' 0 l0A l1A l2I l3I 0 0 S Φ → wkGo l X 6 0 0 4 S [some (.ref l0A), some (.ref l1A), some (.int l2I), some (.int l3I), none, none] []) ∧ (∀ (l0A : Nat) (l1A : Nat) (l2I : Int32) (l3I : Int32) (l4I : Int32) (l5I : Int32) (S : wPS), wkWF S → wkExt S0 S → wkIs S l0A 10 → wkIs S l1A 13 → rX10_rankOf_go F k' 1 l0A l1A l2I l3I l4I l5I S Φ → wkGo l X 6 0 0 20 S [some (.ref l0A), some (.ref l1A), some (.int l2I), some (.int l3I), some (.int l4I), some (.int l5I)] []) := by
  intro k'
  induction k' with
  | zero => exact ⟨fun l0A l1A l2I l3I S hW hE hl0A hl1A h => h.elim, fun l0A l1A l2I l3I l4I l5I S hW hE hl0A hl1A h => h.elim⟩
  | succ k' ih =>
    refine ⟨?_, ?_⟩
    · intro l0A l1A l2I l3I S hW hE hl0A hl1A h
      have h : rX10_rankOf_b0 F (rX10_rankOf_go F k') l0A l1A l2I l3I S Φ := by
        rw [rX10_rankOf_go, if_pos (rfl : (0 : Nat) = 0)] at h
        exact h
      unfold rX10_rankOf_b0 at h
      refine wk_iload_n C dX10_rankOf_4 rfl rfl ?_
      refine wk_aload_n C dX10_rankOf_5 rfl rfl ?_
      refine wk_get C (v := .int (gWords_size S l0A)) huX10_rankOf_10 hl0A.1 (fun cy => wAt_10 cy _ hl0A.2) rfl 10 (by decide) (List.mem_of_getElem? (i := 1) rfl) rfl rfl dX10_rankOf_6 ?_
      refine wk_icmp_ge C (tgt := 66) dX10_rankOf_9 (by decide) (fun c1 => ?_) (fun c1 => ?_)
      · rw [if_pos c1] at h
        refine wk_iload_n C dX10_rankOf_66 rfl rfl ?_
        exact E _ _ _ _ _ _ (Nat.le_refl 0) (Nat.le_refl 0) dX10_rankOf_67 ⟨l2I, rfl, h, hW, hE⟩
      · rw [if_neg c1] at h
        refine wk_iconst C (v := 0) dX10_rankOf_12 (by decide) ?_
        refine wk_istore C (lv' := [some (.ref l0A), some (.ref l1A), some (.int l2I), some (.int l3I), some (.int (0 : Int32)), none]) dX10_rankOf_13 (by decide) rfl ?_
        refine wk_iload_n C dX10_rankOf_15 rfl rfl ?_
        refine wk_iconst C (v := 1) dX10_rankOf_16 (by decide) ?_
        refine wk_iadd C dX10_rankOf_17 rfl ?_
        obtain ⟨x2, ex2, h⟩ := wkLt_some h
        refine wk_topi ex2 ?_
        refine wk_istore C (lv' := [some (.ref l0A), some (.ref l1A), some (.int l2I), some (.int l3I), some (.int (0 : Int32)), some (.int x2)]) dX10_rankOf_18 (by decide) rfl ?_
        exact wk_forget (lv' := [some (.ref l0A), some (.ref l1A), some (.int l2I), some (.int l3I), some (.int (0 : Int32)), some (.int x2)]) (wkLs.le ⟨rfl, rfl, rfl, rfl, rfl, rfl, trivial⟩) (ih.2 _ _ _ _ _ _ _ hW hE hl0A hl1A h)
    · intro l0A l1A l2I l3I l4I l5I S hW hE hl0A hl1A h
      have h : rX10_rankOf_b1 F (rX10_rankOf_go F k') l0A l1A l2I l3I l4I l5I S Φ := by
        rw [rX10_rankOf_go, if_neg (show ¬ (1 : Nat) = 0 by decide), if_pos (rfl : (1 : Nat) = 1)] at h
        exact h
      unfold rX10_rankOf_b1 at h
      refine wk_iload C dX10_rankOf_20 rfl ?_
      refine wk_aload_n C dX10_rankOf_22 rfl rfl ?_
      refine wk_get C (v := .int (gWords_size S l0A)) huX10_rankOf_10 hl0A.1 (fun cy => wAt_10 cy _ hl0A.2) rfl 10 (by decide) (List.mem_of_getElem? (i := 1) rfl) rfl rfl dX10_rankOf_23 ?_
      refine wk_icmp_ge C (tgt := 48) dX10_rankOf_26 (by decide) (fun c3 => ?_) (fun c3 => ?_)
      · rw [if_pos c3] at h
        refine wk_iload_n C dX10_rankOf_48 rfl rfl ?_
        refine wk_aload_n C dX10_rankOf_49 rfl rfl ?_
        refine wk_get C (v := .int (gWords_size S l0A)) huX10_rankOf_10 hl0A.1 (fun cy => wAt_10 cy _ hl0A.2) rfl 10 (by decide) (List.mem_of_getElem? (i := 1) rfl) rfl rfl dX10_rankOf_50 ?_
        refine wk_iload_n C dX10_rankOf_53 rfl rfl ?_
        refine wk_isub C dX10_rankOf_54 rfl ?_
        refine wk_imul C dX10_rankOf_55 rfl ?_
        refine wk_iload C dX10_rankOf_56 rfl ?_
        refine wk_iadd C dX10_rankOf_58 rfl ?_
        obtain ⟨x4, ex4, h⟩ := wkLt_some h
        refine wk_topi ex4 ?_
        refine wk_istore_n C (lv' := [some (.ref l0A), some (.ref l1A), some (.int x4), some (.int l3I), some (.int l4I), some (.int l5I)]) dX10_rankOf_59 rfl (by decide) rfl ?_
        obtain ⟨x5, ex5, h⟩ := wkLt_some h
        refine wk_iinc C (lv' := [some (.ref l0A), some (.ref l1A), some (.int x4), some (.int x5), some (.int l4I), some (.int l5I)]) dX10_rankOf_60 rfl (by rw [ex5]; rfl) (by decide) rfl ?_
        refine wk_goto C (tgt := 4) dX10_rankOf_63 (by decide) ?_
        exact wk_forget (lv' := [some (.ref l0A), some (.ref l1A), some (.int x4), some (.int x5), none, none]) (wkLs.le ⟨rfl, rfl, rfl, rfl, trivial⟩) (ih.1 _ _ _ _ _ hW hE hl0A hl1A h)
      · rw [if_neg c3] at h
        refine wk_aload_n C dX10_rankOf_29 rfl rfl ?_
        refine wk_iload C dX10_rankOf_30 rfl ?_
        obtain ⟨i6, h⟩ := h
        refine wk_iald C hl1A.1 hl1A.2 i6 rfl dX10_rankOf_32 ?_
        refine wk_aload_n C dX10_rankOf_33 rfl rfl ?_
        refine wk_iload_n C dX10_rankOf_34 rfl rfl ?_
        obtain ⟨i7, h⟩ := h
        refine wk_iald C hl1A.1 hl1A.2 i7 rfl dX10_rankOf_35 ?_
        refine wk_icmp_ge C (tgt := 42) dX10_rankOf_36 (by decide) (fun c8 => ?_) (fun c8 => ?_)
        · rw [if_pos c8] at h
          obtain ⟨x9, ex9, h⟩ := wkLt_some h
          refine wk_iinc C (lv' := [some (.ref l0A), some (.ref l1A), some (.int l2I), some (.int l3I), some (.int l4I), some (.int x9)]) dX10_rankOf_42 rfl (by rw [ex9]; rfl) (by decide) rfl ?_
          refine wk_goto C (tgt := 20) dX10_rankOf_45 (by decide) ?_
          exact wk_forget (lv' := [some (.ref l0A), some (.ref l1A), some (.int l2I), some (.int l3I), some (.int l4I), some (.int x9)]) (wkLs.le ⟨rfl, rfl, rfl, rfl, rfl, rfl, trivial⟩) (ih.2 _ _ _ _ _ _ _ hW hE hl0A hl1A h)
        · rw [if_neg c8] at h
          obtain ⟨x10, ex10, h⟩ := wkLt_some h
          refine wk_iinc C (lv' := [some (.ref l0A), some (.ref l1A), some (.int l2I), some (.int l3I), some (.int x10), some (.int l5I)]) dX10_rankOf_39 rfl (by rw [ex10]; rfl) (by decide) rfl ?_
          obtain ⟨x11, ex11, h⟩ := wkLt_some h
          refine wk_iinc C (lv' := [some (.ref l0A), some (.ref l1A), some (.int l2I), some (.int l3I), some (.int x10), some (.int x11)]) dX10_rankOf_42 rfl (by rw [ex11]; rfl) (by decide) rfl ?_
          refine wk_goto C (tgt := 20) dX10_rankOf_45 (by decide) ?_
          exact wk_forget (lv' := [some (.ref l0A), some (.ref l1A), some (.int l2I), some (.int l3I), some (.int x10), some (.int x11)]) (wkLs.le ⟨rfl, rfl, rfl, rfl, rfl, rfl, trivial⟩) (ih.2 _ _ _ _ _ _ _ hW hE hl0A hl1A h)
set_option maxHeartbeats 4000000 in
set_option maxRecDepth 100000 in
theorem tX10_rankOf {l : Launch} {g : wkG} {F : Nat}  {S : wPS} {l0A : Nat} {l1A : Nat} {Φ : (Int32 → wPS → Prop)} (hW : wkWF S) (hl0A : wkIs S l0A 10) (hl1A : wkIs S l1A 13) (h : rX10_rankOf F l0A l1A S Φ) : wkMet l g yX10_rankOf wvX10_rankOf 0 0 0 [.ref l0A, .ref l1A] S (fun v' S'' => ∃ v : Int32, v' = some (.int v) ∧ Φ v S'' ∧ wkWF S'' ∧ wkExt S S'') := by
  refine wkMet_of (ret := (some .int)) (by decide) rfl (Nat.le_of_ble_eq_true rfl) (fun X hg C hR E => ?_)
  subst hg
  have hE : wkExt S S := wkExt.rf
  have hd : 0 ≤ 0 := Nat.le_refl _
  show wkGo l X 6 0 0 0 S [some (.ref l0A), some (.ref l1A), none, none, none, none] []
  have ih := tX10_rankOf_go (F := F) C hR hd E F
  have h : rX10_rankOf_s F (rX10_rankOf_go F F) l0A l1A S Φ := h
  unfold rX10_rankOf_s at h
  refine wk_iconst C (v := 0) dX10_rankOf_0 (by decide) ?_
  refine wk_istore_n C (lv' := [some (.ref l0A), some (.ref l1A), some (.int (0 : Int32)), none, none, none]) dX10_rankOf_1 rfl (by decide) rfl ?_
  refine wk_iconst C (v := 0) dX10_rankOf_2 (by decide) ?_
  refine wk_istore_n C (lv' := [some (.ref l0A), some (.ref l1A), some (.int (0 : Int32)), some (.int (0 : Int32)), none, none]) dX10_rankOf_3 rfl (by decide) rfl ?_
  exact wk_forget (lv' := [some (.ref l0A), some (.ref l1A), some (.int (0 : Int32)), some (.int (0 : Int32)), none, none]) (wkLs.le ⟨rfl, rfl, rfl, rfl, trivial⟩) (ih.1 _ _ _ _ _ hW hE hl0A hl1A h)
def wvX10_codeOf : List Cond := .code yX10_codeOf cX10_codeOf 4 (some .int) :: (([] : List Cond) ++ (([]) ++ ([])))
theorem gdX10_codeOf : ∀ w ∈ wvX10_codeOf, wkGd w := wkGdC rfl (wkGdA (wkGdL (by decide +kernel)) (wkGdA (fun _ h => absurd h List.not_mem_nil) (fun _ h => absurd h List.not_mem_nil)))
def rX10_codeOf_b0 (F : Nat) (rec : Nat → Nat → Int32 → Int32 → Int32 → wPS → (Int32 → wPS → Prop) → Prop) (l0A : Nat) (l1I : Int32) (l2I : Int32) (l3I : Int32) (S : wPS) (Φ : (Int32 → wPS → Prop)) : Prop :=
  if l1I ≤ l3I then (Φ l2I S) else (¬ (l3I < 0 ∨ S.len l0A ≤ (l3I).toNatClampNeg) ∧ wkLt (((l2I * (6 : Int32)) + (S.rI l0A (l3I).toNatClampNeg))) fun x3 => wkLt (l3I + (1 : Int32)) fun x4 => rec 0 l0A l1I x3 x4 S Φ)
def rX10_codeOf_go (F : Nat) : Nat → Nat → Nat → Int32 → Int32 → Int32 → wPS → (Int32 → wPS → Prop) → Prop
  | 0, _, _, _, _, _, _, _ => False
  | k' + 1, lab, l0A, l1I, l2I, l3I, S, Φ => if lab = 0 then rX10_codeOf_b0 F (rX10_codeOf_go F k') l0A l1I l2I l3I S Φ else False
def rX10_codeOf_s (F : Nat) (rec : Nat → Nat → Int32 → Int32 → Int32 → wPS → (Int32 → wPS → Prop) → Prop) (l0A : Nat) (l1I : Int32) (S : wPS) (Φ : (Int32 → wPS → Prop)) : Prop :=
  rec 0 l0A l1I (0 : Int32) (0 : Int32) S Φ
def rX10_codeOf (F : Nat) (l0A : Nat) (l1I : Int32) (S : wPS) (Φ : (Int32 → wPS → Prop)) : Prop := rX10_codeOf_s F (rX10_codeOf_go F F) l0A l1I S Φ
set_option maxHeartbeats 4000000 in
set_option maxRecDepth 100000 in
theorem tX10_codeOf_go {l : Launch} {X : wkX} {d F : Nat} {S0 : wPS} {Φ : (Int32 → wPS → Prop)} (C : wkC X cX10_codeOf RX10 4 wvX10_codeOf) (hR : wkRm X d 0 0) (hd : 0 ≤ d) (E : wkEnd l X cX10_codeOf 4 (some .int) 0 0 (fun v' S'' => ∃ v : Int32, v' = some (.int v) ∧ Φ v S'' ∧ wkWF S'' ∧ wkExt S0 S'')) : ∀ k' : Nat, (∀ (l0A : Nat) (l1I : Int32) (l2I : Int32) (l3I : Int32) (S : wPS), wkWF S → wkExt S0 S → wkIs S l0A 13 → rX10_codeOf_go F k' 0 l0A l1I l2I l3I S Φ → wkGo l X 4 0 0 4 S [some (.ref l0A), some (.int l1I), some (.int l2I), some (.int l3I)] []) := by
  intro k'
  induction k' with
  | zero => exact fun l0A l1I l2I l3I S hW hE hl0A h => h.elim
  | succ k' ih =>
    · intro l0A l1I l2I l3I S hW hE hl0A h
      have h : rX10_codeOf_b0 F (rX10_codeOf_go F k') l0A l1I l2I l3I S Φ := by
        rw [rX10_codeOf_go, if_pos (rfl : (0 : Nat) = 0)] at h
        exact h
      unfold rX10_codeOf_b0 at h
      refine wk_iload_n C dX10_codeOf_4 rfl rfl ?_
      refine wk_iload_n C dX10_codeOf_5 rfl rfl ?_
      refine wk_icmp_ge C (tgt := 24) dX10_codeOf_6 (by decide) (fun c1 => ?_) (fun c1 => ?_)
      · rw [if_pos c1] at h
        refine wk_iload_n C dX10_codeOf_24 rfl rfl ?_
        exact E _ _ _ _ _ _ (Nat.le_refl 0) (Nat.le_refl 0) dX10_codeOf_25 ⟨l2I, rfl, h, hW, hE⟩
      · rw [if_neg c1] at h
        refine wk_iload_n C dX10_codeOf_9 rfl rfl ?_
        refine wk_bipush C (v := 6) dX10_codeOf_10 (by decide) ?_
        refine wk_imul C dX10_codeOf_12 rfl ?_
        refine wk_aload_n C dX10_codeOf_13 rfl rfl ?_
        refine wk_iload_n C dX10_codeOf_14 rfl rfl ?_
        obtain ⟨i2, h⟩ := h
        refine wk_iald C hl0A.1 hl0A.2 i2 rfl dX10_codeOf_15 ?_
        refine wk_iadd C dX10_codeOf_16 rfl ?_
        obtain ⟨x3, ex3, h⟩ := wkLt_some h
        refine wk_topi ex3 ?_
        refine wk_istore_n C (lv' := [some (.ref l0A), some (.int l1I), some (.int x3), some (.int l3I)]) dX10_codeOf_17 rfl (by decide) rfl ?_
        obtain ⟨x4, ex4, h⟩ := wkLt_some h
        refine wk_iinc C (lv' := [some (.ref l0A), some (.int l1I), some (.int x3), some (.int x4)]) dX10_codeOf_18 rfl (by rw [ex4]; rfl) (by decide) rfl ?_
        refine wk_goto C (tgt := 4) dX10_codeOf_21 (by decide) ?_
        exact wk_forget (lv' := [some (.ref l0A), some (.int l1I), some (.int x3), some (.int x4)]) (wkLs.le ⟨rfl, rfl, rfl, rfl, trivial⟩) (ih _ _ _ _ _ hW hE hl0A h)
set_option maxHeartbeats 4000000 in
set_option maxRecDepth 100000 in
theorem tX10_codeOf {l : Launch} {g : wkG} {F : Nat}  {S : wPS} {l0A : Nat} {l1I : Int32} {Φ : (Int32 → wPS → Prop)} (hW : wkWF S) (hl0A : wkIs S l0A 13) (h : rX10_codeOf F l0A l1I S Φ) : wkMet l g yX10_codeOf wvX10_codeOf 0 0 0 [.ref l0A, .int l1I] S (fun v' S'' => ∃ v : Int32, v' = some (.int v) ∧ Φ v S'' ∧ wkWF S'' ∧ wkExt S S'') := by
  refine wkMet_of (ret := (some .int)) (by decide) rfl (Nat.le_of_ble_eq_true rfl) (fun X hg C hR E => ?_)
  subst hg
  have hE : wkExt S S := wkExt.rf
  have hd : 0 ≤ 0 := Nat.le_refl _
  show wkGo l X 4 0 0 0 S [some (.ref l0A), some (.int l1I), none, none] []
  have ih := tX10_codeOf_go (F := F) C hR hd E F
  have h : rX10_codeOf_s F (rX10_codeOf_go F F) l0A l1I S Φ := h
  unfold rX10_codeOf_s at h
  refine wk_iconst C (v := 0) dX10_codeOf_0 (by decide) ?_
  refine wk_istore_n C (lv' := [some (.ref l0A), some (.int l1I), some (.int (0 : Int32)), none]) dX10_codeOf_1 rfl (by decide) rfl ?_
  refine wk_iconst C (v := 0) dX10_codeOf_2 (by decide) ?_
  refine wk_istore_n C (lv' := [some (.ref l0A), some (.int l1I), some (.int (0 : Int32)), some (.int (0 : Int32))]) dX10_codeOf_3 rfl (by decide) rfl ?_
  exact wk_forget (lv' := [some (.ref l0A), some (.int l1I), some (.int (0 : Int32)), some (.int (0 : Int32))]) (wkLs.le ⟨rfl, rfl, rfl, rfl, trivial⟩) (ih _ _ _ _ _ hW hE hl0A h)
def wvX10_firstWord : List Cond := .code yX10_firstWord cX10_firstWord 1 (some .int) :: (([.fieldLink RX10 75 "Witnessworks$Entry" "itemCount" "I", .methodLink RX10 91 yX3_at, .instanceMethod yX3_at, .selects RX3 yX3_at yX3_at, .initialized RX3] : List Cond) ++ ((wsX30) ++ (wvX3_at)))
theorem huX10_firstWord_3 : ∀ w ∈ u_ws RX3 TX3 17, w ∈ wvX10_firstWord := fun w h => List.mem_cons_of_mem _ (List.mem_append_right _ (List.mem_append_left _ h))
theorem hbX10_firstWord_X3_at : ∀ w ∈ wvX3_at, w ∈ wvX10_firstWord := fun w h => List.mem_cons_of_mem _ (List.mem_append_right _ (List.mem_append_right _ h))
theorem gdX10_firstWord : ∀ w ∈ wvX10_firstWord, wkGd w := wkGdC rfl (wkGdA (wkGdL (by decide +kernel)) (wkGdA gdX3 gdX3_at))
def rX10_firstWord (F : Nat) (l0A : Nat) (S : wPS) (Φ : (Int32 → wPS → Prop)) : Prop :=
  if (gEntry_itemCount S l0A) ≤ 0 then (Φ (1 : Int32) S) else (rX3_at F l0A (0 : Int32) (0 : Int32) S fun v2 S3 => Φ v2 S3)
set_option maxHeartbeats 4000000 in
set_option maxRecDepth 100000 in
theorem tX10_firstWord {l : Launch} {g : wkG} {F : Nat}  {S : wPS} {l0A : Nat} {Φ : (Int32 → wPS → Prop)} (hW : wkWF S) (hl0A : wkIs S l0A 3) (h : rX10_firstWord F l0A S Φ) : wkMet l g yX10_firstWord wvX10_firstWord 1 0 0 [.ref l0A] S (fun v' S'' => ∃ v : Int32, v' = some (.int v) ∧ Φ v S'' ∧ wkWF S'' ∧ wkExt S S'') := by
  refine wkMet_of (ret := (some .int)) (by decide) rfl (Nat.le_of_ble_eq_true rfl) (fun X hg C hR E => ?_)
  subst hg
  have hE : wkExt S S := wkExt.rf
  have hd : 1 ≤ 1 := Nat.le_refl _
  show wkGo l X 1 0 0 0 S [some (.ref l0A)] []
  unfold rX10_firstWord at h
  refine wk_aload_n C dX10_firstWord_0 rfl rfl ?_
  refine wk_get C (v := .int (gEntry_itemCount S l0A)) huX10_firstWord_3 hl0A.1 (fun cy => wAt_3 cy _ hl0A.2) rfl 6 (by decide) (List.mem_of_getElem? (i := 1) rfl) rfl rfl dX10_firstWord_1 ?_
  refine wk_if_le C (tgt := 16) dX10_firstWord_4 (by decide) (fun c1 => ?_) (fun c1 => ?_)
  · rw [if_pos c1] at h
    refine wk_iconst C (v := 1) dX10_firstWord_16 (by decide) ?_
    exact E _ _ _ _ _ _ (Nat.le_refl 0) (Nat.le_refl 0) dX10_firstWord_17 ⟨(1 : Int32), rfl, h, hW, hE⟩
  · rw [if_neg c1] at h
    refine wk_aload_n C dX10_firstWord_7 rfl rfl ?_
    refine wk_iconst C (v := 0) dX10_firstWord_8 (by decide) ?_
    refine wk_iconst C (v := 0) dX10_firstWord_9 (by decide) ?_
    refine wk_callV C hR (As := [.int (0 : Int32), .int (0 : Int32)]) (cnt := 2) (tX3_at (l := l) hW hl0A h) rfl (wkGoodV (List.mem_of_getElem? (i := 2) rfl) (List.mem_of_getElem? (i := 3) rfl) (List.mem_of_getElem? (i := 4) rfl) (List.mem_of_getElem? (i := 5) rfl) hbX10_firstWord_X3_at gdX3_at) (Nat.le_trans (by decide : 0 + 1 ≤ 1) hd) (by decide) hl0A.1 (fun cy => wAt_3 cy _ hl0A.2) rfl ⟨by decide, by decide, by decide +kernel⟩ rfl rfl (Nat.le_of_ble_eq_true rfl) (Nat.le_refl 0) (Nat.le_refl 0) dX10_firstWord_10 (fun v' S3 hp => ?_)
    obtain ⟨v2, rfl, h, hWS3, hXS3⟩ := hp
    refine wk_goto C (tgt := 17) dX10_firstWord_13 (by decide) ?_
    exact E _ _ _ _ _ _ (Nat.le_refl 0) (Nat.le_refl 0) dX10_firstWord_17 ⟨v2, rfl, h, hWS3, (wkExt.tr hE hXS3)⟩
def wvX10_secondWord : List Cond := .code yX10_secondWord cX10_secondWord 1 (some .int) :: (([.fieldLink RX10 75 "Witnessworks$Entry" "itemCount" "I", .methodLink RX10 91 yX3_at, .instanceMethod yX3_at, .selects RX3 yX3_at yX3_at, .initialized RX3] : List Cond) ++ ((wsX30) ++ (wvX3_at)))
theorem huX10_secondWord_3 : ∀ w ∈ u_ws RX3 TX3 17, w ∈ wvX10_secondWord := fun w h => List.mem_cons_of_mem _ (List.mem_append_right _ (List.mem_append_left _ h))
theorem hbX10_secondWord_X3_at : ∀ w ∈ wvX3_at, w ∈ wvX10_secondWord := fun w h => List.mem_cons_of_mem _ (List.mem_append_right _ (List.mem_append_right _ h))
theorem gdX10_secondWord : ∀ w ∈ wvX10_secondWord, wkGd w := wkGdC rfl (wkGdA (wkGdL (by decide +kernel)) (wkGdA gdX3 gdX3_at))
def rX10_secondWord (F : Nat) (l0A : Nat) (S : wPS) (Φ : (Int32 → wPS → Prop)) : Prop :=
  if (gEntry_itemCount S l0A) ≤ 0 then (Φ (1 : Int32) S) else (rX3_at F l0A (0 : Int32) (1 : Int32) S fun v2 S3 => Φ v2 S3)
set_option maxHeartbeats 4000000 in
set_option maxRecDepth 100000 in
theorem tX10_secondWord {l : Launch} {g : wkG} {F : Nat}  {S : wPS} {l0A : Nat} {Φ : (Int32 → wPS → Prop)} (hW : wkWF S) (hl0A : wkIs S l0A 3) (h : rX10_secondWord F l0A S Φ) : wkMet l g yX10_secondWord wvX10_secondWord 1 0 0 [.ref l0A] S (fun v' S'' => ∃ v : Int32, v' = some (.int v) ∧ Φ v S'' ∧ wkWF S'' ∧ wkExt S S'') := by
  refine wkMet_of (ret := (some .int)) (by decide) rfl (Nat.le_of_ble_eq_true rfl) (fun X hg C hR E => ?_)
  subst hg
  have hE : wkExt S S := wkExt.rf
  have hd : 1 ≤ 1 := Nat.le_refl _
  show wkGo l X 1 0 0 0 S [some (.ref l0A)] []
  unfold rX10_secondWord at h
  refine wk_aload_n C dX10_secondWord_0 rfl rfl ?_
  refine wk_get C (v := .int (gEntry_itemCount S l0A)) huX10_secondWord_3 hl0A.1 (fun cy => wAt_3 cy _ hl0A.2) rfl 6 (by decide) (List.mem_of_getElem? (i := 1) rfl) rfl rfl dX10_secondWord_1 ?_
  refine wk_if_le C (tgt := 16) dX10_secondWord_4 (by decide) (fun c1 => ?_) (fun c1 => ?_)
  · rw [if_pos c1] at h
    refine wk_iconst C (v := 1) dX10_secondWord_16 (by decide) ?_
    exact E _ _ _ _ _ _ (Nat.le_refl 0) (Nat.le_refl 0) dX10_secondWord_17 ⟨(1 : Int32), rfl, h, hW, hE⟩
  · rw [if_neg c1] at h
    refine wk_aload_n C dX10_secondWord_7 rfl rfl ?_
    refine wk_iconst C (v := 0) dX10_secondWord_8 (by decide) ?_
    refine wk_iconst C (v := 1) dX10_secondWord_9 (by decide) ?_
    refine wk_callV C hR (As := [.int (0 : Int32), .int (1 : Int32)]) (cnt := 2) (tX3_at (l := l) hW hl0A h) rfl (wkGoodV (List.mem_of_getElem? (i := 2) rfl) (List.mem_of_getElem? (i := 3) rfl) (List.mem_of_getElem? (i := 4) rfl) (List.mem_of_getElem? (i := 5) rfl) hbX10_secondWord_X3_at gdX3_at) (Nat.le_trans (by decide : 0 + 1 ≤ 1) hd) (by decide) hl0A.1 (fun cy => wAt_3 cy _ hl0A.2) rfl ⟨by decide, by decide, by decide +kernel⟩ rfl rfl (Nat.le_of_ble_eq_true rfl) (Nat.le_refl 0) (Nat.le_refl 0) dX10_secondWord_10 (fun v' S3 hp => ?_)
    obtain ⟨v2, rfl, h, hWS3, hXS3⟩ := hp
    refine wk_goto C (tgt := 17) dX10_secondWord_13 (by decide) ?_
    exact E _ _ _ _ _ _ (Nat.le_refl 0) (Nat.le_refl 0) dX10_secondWord_17 ⟨v2, rfl, h, hWS3, (wkExt.tr hE hXS3)⟩
