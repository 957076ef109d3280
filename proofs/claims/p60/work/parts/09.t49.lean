def wvX11_forgetEntry : List Cond := .code yX11_forgetEntry cX11_forgetEntry 3 none :: (([.fieldLink RX11 18 "Witnessworks" "book" "[LWitnessworks$Entry;", .fieldLink RX11 428 "Witnessworks$Entry" "wasSettled" "Z", .fieldLink RX11 86 "Witnessworks" "entryCount" "I", .fieldLink RX11 56 "Witnessworks" "claims" "[LWitnessworks$Claim;", .fieldLink RX11 406 "Witnessworks$Claim" "entry" "I", .methodLink RX11 505 yX11_removeClaim, .instanceMethod yX11_removeClaim, .selects RX11 yX11_removeClaim yX11_removeClaim, .initialized RX11, .fieldLink RX11 395 "Witnessworks" "claimCount" "I"] : List Cond) ++ ((wsX110 ++ (wsX30 ++ (wsX00))) ++ (wvX11_removeClaim)))
theorem huX11_forgetEntry_11 : ∀ w ∈ u_ws RX11 TX11 19, w ∈ wvX11_forgetEntry := fun w h => List.mem_cons_of_mem _ (List.mem_append_right _ (List.mem_append_left _ (List.mem_append_left _ h)))
theorem huX11_forgetEntry_3 : ∀ w ∈ u_ws RX3 TX3 17, w ∈ wvX11_forgetEntry := fun w h => List.mem_cons_of_mem _ (List.mem_append_right _ (List.mem_append_left _ (List.mem_append_right _ (List.mem_append_left _ h))))
theorem huX11_forgetEntry_0 : ∀ w ∈ u_ws RX0 TX0 4, w ∈ wvX11_forgetEntry := fun w h => List.mem_cons_of_mem _ (List.mem_append_right _ (List.mem_append_left _ (List.mem_append_right _ (List.mem_append_right _ h))))
theorem hbX11_forgetEntry_X11_removeClaim : ∀ w ∈ wvX11_removeClaim, w ∈ wvX11_forgetEntry := fun w h => List.mem_cons_of_mem _ (List.mem_append_right _ (List.mem_append_right _ h))
theorem gdX11_forgetEntry : ∀ w ∈ wvX11_forgetEntry, wkGd w := wkGdC rfl (wkGdA (wkGdL (by decide +kernel)) (wkGdA (wkGdA gdX11 (wkGdA gdX3 gdX0)) gdX11_removeClaim))
def rX11_forgetEntry_b0 (F : Nat) (rec : Nat → Nat → Int32 → Int32 → wPS → (Unit → wPS → Prop) → Prop) (l0A : Nat) (l1I : Int32) (l2I : Int32) (S : wPS) (Φ : (Unit → wPS → Prop)) : Prop :=
  if l2I < 0 then (¬ (l1I < 0 ∨ S.len (wkAd (gWitnessworks_book S l0A)) ≤ (l1I).toNatClampNeg) ∧ wkLt (wu_Entry_wasSettled S (wkAd (S.rA (wkAd (gWitnessworks_book S l0A)) (l1I).toNatClampNeg)) (0 : Int32)) fun S4 => wkLt (wu_Witnessworks_entryCount S4 l0A ((gWitnessworks_entryCount S4 l0A) - (1 : Int32))) fun S5 => Φ () S5) else (¬ (l2I < 0 ∨ S.len (wkAd (gWitnessworks_claims S l0A)) ≤ (l2I).toNatClampNeg) ∧ if (gClaim_entry S (wkAd (S.rA (wkAd (gWitnessworks_claims S l0A)) (l2I).toNatClampNeg))) = l1I then (rX11_removeClaim F l0A l2I S fun v10 S11 => wkLt (l2I + (-1 : Int32)) fun x15 => rec 0 l0A l1I x15 S11 Φ) else (wkLt (l2I + (-1 : Int32)) fun x9 => rec 0 l0A l1I x9 S Φ))
def rX11_forgetEntry_go (F : Nat) : Nat → Nat → Nat → Int32 → Int32 → wPS → (Unit → wPS → Prop) → Prop
  | 0, _, _, _, _, _, _ => False
  | k' + 1, lab, l0A, l1I, l2I, S, Φ => if lab = 0 then rX11_forgetEntry_b0 F (rX11_forgetEntry_go F k') l0A l1I l2I S Φ else False
def rX11_forgetEntry_s (F : Nat) (rec : Nat → Nat → Int32 → Int32 → wPS → (Unit → wPS → Prop) → Prop) (l0A : Nat) (l1I : Int32) (S : wPS) (Φ : (Unit → wPS → Prop)) : Prop :=
  wkLt (((gWitnessworks_claimCount S l0A) - (1 : Int32))) fun x16 => rec 0 l0A l1I x16 S Φ
def rX11_forgetEntry (F : Nat) (l0A : Nat) (l1I : Int32) (S : wPS) (Φ : (Unit → wPS → Prop)) : Prop := rX11_forgetEntry_s F (rX11_forgetEntry_go F F) l0A l1I S Φ
set_option maxHeartbeats 4000000 in
set_option maxRecDepth 100000 in
theorem tX11_forgetEntry_go {l : Launch} {X : wkX} {d F : Nat} {S0 : wPS} {Φ : (Unit → wPS → Prop)} (C : wkC X cX11_forgetEntry RX11 3 wvX11_forgetEntry) (hR : wkRm X d 0 0) (hd : 1 ≤ d) (E : wkEnd l X cX11_forgetEntry 3 none 0 0 (fun v' S'' => ∃ v : Unit, v' = none ∧ Φ v S'' ∧ wkWF S'' ∧ wkExt S0 S'')) : ∀ k' : Nat, (∀ (l0A : Nat) (l1I : Int32) (l2I : Int32) (S : wPS), wkWF S → wkExt S0 S → wkIs S l0A 11 → rX11_forgetEntry_go F k' 0 l0A l1I l2I S Φ → wkGo l X 3 0 0 7 S [some (.ref l0A), some (.int l1I), some (.int l2I)] []) := by
  intro k'
  induction k' with
  | zero => exact fun l0A l1I l2I S hW hE hl0A h => h.elim
  | succ k' ih =>
    · intro l0A l1I l2I S hW hE hl0A h
      have h : rX11_forgetEntry_b0 F (rX11_forgetEntry_go F k') l0A l1I l2I S Φ := by
        rw [rX11_forgetEntry_go, if_pos (rfl : (0 : Nat) = 0)] at h
        exact h
      unfold rX11_forgetEntry_b0 at h
      refine wk_iload_n C dX11_forgetEntry_7 rfl rfl ?_
      refine wk_if_lt C (tgt := 35) dX11_forgetEntry_8 (by decide) (fun c1 => ?_) (fun c1 => ?_)
      · rw [if_pos c1] at h
        refine wk_aload_n C dX11_forgetEntry_35 rfl rfl ?_
        refine wk_get C huX11_forgetEntry_11 hl0A.1 (fun cy => wAt_11 cy _ hl0A.2) rfl 1 (by decide) (List.mem_of_getElem? (i := 1) rfl) rfl (congrArg some (congrArg va_rf (wf_Witnessworks_book hW hl0A).1)) dX11_forgetEntry_36 ?_
        refine wk_iload_n C dX11_forgetEntry_39 rfl rfl ?_
        obtain ⟨i2, h⟩ := h
        have w3 := wf_REntry hW (wf_Witnessworks_book hW hl0A).2 (Nat.not_le.mp fun q => i2 (Or.inr q))
        refine wk_aaldEntry C (wf_Witnessworks_book hW hl0A).2.1 (wf_Witnessworks_book hW hl0A).2.2 i2 w3.1 dX11_forgetEntry_40 ?_
        refine wk_iconst C (v := 0) dX11_forgetEntry_41 (by decide) ?_
        obtain ⟨S4, eS4, h⟩ := wkLt_some h
        refine wk_put C (S' := S4) huX11_forgetEntry_3 w3.2.1 (fun cy => wAt_3 cy _ w3.2.2) rfl 14 (by decide) (List.mem_of_getElem? (i := 2) rfl) rfl tyX3_ok nmX3 rfl (ty := .boolean) rfl rfl rfl (by show 14 < 17; decide) (fun cy b => by rw [eS4]; exact wSt_3_14 cy _ w3.2.2 _ b) (by rw [eS4]) dX11_forgetEntry_42 ?_
        have hWS4 : wkWF S4 := by rw [eS4]; exact hW
        have hXS4 : wkExt S S4 := by rw [eS4]; exact wkExt.rf
        refine wk_aload_n C dX11_forgetEntry_45 rfl rfl ?_
        refine wk_dup C dX11_forgetEntry_46 rfl ?_
        refine wk_get C (v := .int (gWitnessworks_entryCount S4 l0A)) huX11_forgetEntry_11 (hXS4 _ _ hl0A).1 (fun cy => wAt_11 cy _ (hXS4 _ _ hl0A).2) rfl 2 (by decide) (List.mem_of_getElem? (i := 3) rfl) rfl rfl dX11_forgetEntry_47 ?_
        refine wk_iconst C (v := 1) dX11_forgetEntry_50 (by decide) ?_
        refine wk_isub C dX11_forgetEntry_51 rfl ?_
        obtain ⟨S5, eS5, h⟩ := wkLt_some h
        refine wk_put C (S' := S5) huX11_forgetEntry_11 (hXS4 _ _ hl0A).1 (fun cy => wAt_11 cy _ (hXS4 _ _ hl0A).2) rfl 2 (by decide) (List.mem_of_getElem? (i := 3) rfl) rfl tyX11_ok nmX11 rfl (ty := .int) rfl rfl rfl (by show 2 < 19; decide) (fun cy b => by rw [eS5]; exact wSt_11_2 cy _ (hXS4 _ _ hl0A).2 _ b) (by rw [eS5]) dX11_forgetEntry_52 ?_
        have hWS5 : wkWF S5 := by rw [eS5]; exact hWS4
        have hXS5 : wkExt S4 S5 := by rw [eS5]; exact wkExt.rf
        exact E _ _ _ _ _ (Nat.le_refl 0) (Nat.le_refl 0) dX11_forgetEntry_55 ⟨(), rfl, h, hWS5, (wkExt.tr (wkExt.tr hE hXS4) hXS5)⟩
      · rw [if_neg c1] at h
        refine wk_aload_n C dX11_forgetEntry_11 rfl rfl ?_
        refine wk_get C huX11_forgetEntry_11 hl0A.1 (fun cy => wAt_11 cy _ hl0A.2) rfl 14 (by decide) (List.mem_of_getElem? (i := 4) rfl) rfl (congrArg some (congrArg va_rf (wf_Witnessworks_claims hW hl0A).1)) dX11_forgetEntry_12 ?_
        refine wk_iload_n C dX11_forgetEntry_15 rfl rfl ?_
        obtain ⟨i6, h⟩ := h
        have w7 := wf_RClaim hW (wf_Witnessworks_claims hW hl0A).2 (Nat.not_le.mp fun q => i6 (Or.inr q))
        refine wk_aaldClaim C (wf_Witnessworks_claims hW hl0A).2.1 (wf_Witnessworks_claims hW hl0A).2.2 i6 w7.1 dX11_forgetEntry_16 ?_
        refine wk_get C (v := .int (gClaim_entry S (wkAd (S.rA (wkAd (gWitnessworks_claims S l0A)) (l2I).toNatClampNeg)))) huX11_forgetEntry_0 w7.2.1 (fun cy => wAt_0 cy _ w7.2.2) rfl 1 (by decide) (List.mem_of_getElem? (i := 5) rfl) rfl rfl dX11_forgetEntry_17 ?_
        refine wk_iload_n C dX11_forgetEntry_20 rfl rfl ?_
        refine wk_icmp_ne C (tgt := 29) dX11_forgetEntry_21 (by decide) (fun c8 => ?_) (fun c8 => ?_)
        · rw [if_neg c8] at h
          obtain ⟨x9, ex9, h⟩ := wkLt_some h
          refine wk_iinc C (lv' := [some (.ref l0A), some (.int l1I), some (.int x9)]) dX11_forgetEntry_29 rfl (by rw [ex9]; rfl) (by decide) rfl ?_
          refine wk_goto C (tgt := 7) dX11_forgetEntry_32 (by decide) ?_
          exact wk_forget (lv' := [some (.ref l0A), some (.int l1I), some (.int x9)]) (wkLs.le ⟨rfl, rfl, rfl, trivial⟩) (ih _ _ _ _ hW hE hl0A h)
        · rw [if_pos c8] at h
          refine wk_aload_n C dX11_forgetEntry_24 rfl rfl ?_
          refine wk_iload_n C dX11_forgetEntry_25 rfl rfl ?_
          refine wk_callV C hR (As := [.int l2I]) (cnt := 1) (tX11_removeClaim (l := l) hW hl0A h) rfl (wkGoodV (List.mem_of_getElem? (i := 6) rfl) (List.mem_of_getElem? (i := 7) rfl) (List.mem_of_getElem? (i := 8) rfl) (List.mem_of_getElem? (i := 9) rfl) hbX11_forgetEntry_X11_removeClaim gdX11_removeClaim) (Nat.le_trans (by decide : 0 + 1 ≤ 1) hd) (by decide) hl0A.1 (fun cy => wAt_11 cy _ hl0A.2) rfl ⟨by decide, by decide, by decide +kernel⟩ rfl rfl (Nat.le_of_ble_eq_true rfl) (Nat.le_refl 0) (Nat.le_refl 0) dX11_forgetEntry_26 (fun v' S11 hp => ?_)
          obtain ⟨v10, rfl, h, hWS11, hXS11⟩ := hp
          obtain ⟨x15, ex15, h⟩ := wkLt_some h
          refine wk_iinc C (lv' := [some (.ref l0A), some (.int l1I), some (.int x15)]) dX11_forgetEntry_29 rfl (by rw [ex15]; rfl) (by decide) rfl ?_
          refine wk_goto C (tgt := 7) dX11_forgetEntry_32 (by decide) ?_
          exact wk_forget (lv' := [some (.ref l0A), some (.int l1I), some (.int x15)]) (wkLs.le ⟨rfl, rfl, rfl, trivial⟩) (ih _ _ _ _ hWS11 (wkExt.tr hE hXS11) (hXS11 _ _ hl0A) h)
set_option maxHeartbeats 4000000 in
set_option maxRecDepth 100000 in
theorem tX11_forgetEntry {l : Launch} {g : wkG} {F : Nat}  {S : wPS} {l0A : Nat} {l1I : Int32} {Φ : (Unit → wPS → Prop)} (hW : wkWF S) (hl0A : wkIs S l0A 11) (h : rX11_forgetEntry F l0A l1I S Φ) : wkMet l g yX11_forgetEntry wvX11_forgetEntry 1 0 0 [.ref l0A, .int l1I] S (fun v' S'' => ∃ v : Unit, v' = none ∧ Φ v S'' ∧ wkWF S'' ∧ wkExt S S'') := by
  refine wkMet_of (ret := none) (by decide) rfl (Nat.le_of_ble_eq_true rfl) (fun X hg C hR E => ?_)
  subst hg
  have hE : wkExt S S := wkExt.rf
  have hd : 1 ≤ 1 := Nat.le_refl _
  show wkGo l X 3 0 0 0 S [some (.ref l0A), some (.int l1I), none] []
  have ih := tX11_forgetEntry_go (F := F) C hR hd E F
  have h : rX11_forgetEntry_s F (rX11_forgetEntry_go F F) l0A l1I S Φ := h
  unfold rX11_forgetEntry_s at h
  refine wk_aload_n C dX11_forgetEntry_0 rfl rfl ?_
  refine wk_get C (v := .int (gWitnessworks_claimCount S l0A)) huX11_forgetEntry_11 hl0A.1 (fun cy => wAt_11 cy _ hl0A.2) rfl 15 (by decide) (List.mem_of_getElem? (i := 10) rfl) rfl rfl dX11_forgetEntry_1 ?_
  refine wk_iconst C (v := 1) dX11_forgetEntry_4 (by decide) ?_
  refine wk_isub C dX11_forgetEntry_5 rfl ?_
  obtain ⟨x16, ex16, h⟩ := wkLt_some h
  refine wk_topi ex16 ?_
  refine wk_istore_n C (lv' := [some (.ref l0A), some (.int l1I), some (.int x16)]) dX11_forgetEntry_6 rfl (by decide) rfl ?_
  exact wk_forget (lv' := [some (.ref l0A), some (.int l1I), some (.int x16)]) (wkLs.le ⟨rfl, rfl, rfl, trivial⟩) (ih _ _ _ _ hW hE hl0A h)
def wvX11_standsAlready : List Cond := .code yX11_standsAlready cX11_standsAlready 5 (some .boolean) :: (([.fieldLink RX11 395 "Witnessworks" "claimCount" "I", .fieldLink RX11 56 "Witnessworks" "claims" "[LWitnessworks$Claim;", .fieldLink RX11 406 "Witnessworks$Claim" "entry" "I", .fieldLink RX11 409 "Witnessworks$Claim" "isWitness" "Z", .fieldLink RX11 412 "Witnessworks$Claim" "row" "LWitnessworks$Row;", .fieldLink RX11 47 "Witnessworks" "typed" "LWitnessworks$Row;", .methodLink RX11 437 yX9_isLike, .instanceMethod yX9_isLike, .selects RX9 yX9_isLike yX9_isLike, .initialized RX9] : List Cond) ++ ((wsX110 ++ (wsX00)) ++ (wvX9_isLike)))
theorem huX11_standsAlready_11 : ∀ w ∈ u_ws RX11 TX11 19, w ∈ wvX11_standsAlready := fun w h => List.mem_cons_of_mem _ (List.mem_append_right _ (List.mem_append_left _ (List.mem_append_left _ h)))
theorem huX11_standsAlready_0 : ∀ w ∈ u_ws RX0 TX0 4, w ∈ wvX11_standsAlready := fun w h => List.mem_cons_of_mem _ (List.mem_append_right _ (List.mem_append_left _ (List.mem_append_right _ h)))
theorem hbX11_standsAlready_X9_isLike : ∀ w ∈ wvX9_isLike, w ∈ wvX11_standsAlready := fun w h => List.mem_cons_of_mem _ (List.mem_append_right _ (List.mem_append_right _ h))
theorem gdX11_standsAlready : ∀ w ∈ wvX11_standsAlready, wkGd w := wkGdC rfl (wkGdA (wkGdL (by decide +kernel)) (wkGdA (wkGdA gdX11 gdX0) gdX9_isLike))
def rX11_standsAlready_b0 (F : Nat) (rec : Nat → Nat → Int32 → Int32 → Int32 → wPS → (Int32 → wPS → Prop) → Prop) (l0A : Nat) (l1I : Int32) (l2I : Int32) (l3I : Int32) (S : wPS) (Φ : (Int32 → wPS → Prop)) : Prop :=
  if (gWitnessworks_claimCount S l0A) ≤ l3I then (Φ (0 : Int32) S) else (¬ (l3I < 0 ∨ S.len (wkAd (gWitnessworks_claims S l0A)) ≤ (l3I).toNatClampNeg) ∧ if (gClaim_entry S (wkAd (S.rA (wkAd (gWitnessworks_claims S l0A)) (l3I).toNatClampNeg))) = l1I then (if (gClaim_isWitness S (wkAd (S.rA (wkAd (gWitnessworks_claims S l0A)) (l3I).toNatClampNeg))) = l2I then (rX9_isLike F (wkAd (gClaim_row S (wkAd (S.rA (wkAd (gWitnessworks_claims S l0A)) (l3I).toNatClampNeg)))) (wkAd (gWitnessworks_typed S l0A)) S fun v8 S9 => if v8 = 0 then (wkLt (l3I + (1 : Int32)) fun x14 => rec 0 l0A l1I l2I x14 S9 Φ) else (Φ (1 : Int32) S9)) else (wkLt (l3I + (1 : Int32)) fun x7 => rec 0 l0A l1I l2I x7 S Φ)) else (wkLt (l3I + (1 : Int32)) fun x5 => rec 0 l0A l1I l2I x5 S Φ))
def rX11_standsAlready_go (F : Nat) : Nat → Nat → Nat → Int32 → Int32 → Int32 → wPS → (Int32 → wPS → Prop) → Prop
  | 0, _, _, _, _, _, _, _ => False
  | k' + 1, lab, l0A, l1I, l2I, l3I, S, Φ => if lab = 0 then rX11_standsAlready_b0 F (rX11_standsAlready_go F k') l0A l1I l2I l3I S Φ else False
def rX11_standsAlready_s (F : Nat) (rec : Nat → Nat → Int32 → Int32 → Int32 → wPS → (Int32 → wPS → Prop) → Prop) (l0A : Nat) (l1I : Int32) (l2I : Int32) (S : wPS) (Φ : (Int32 → wPS → Prop)) : Prop :=
  rec 0 l0A l1I l2I (0 : Int32) S Φ
def rX11_standsAlready (F : Nat) (l0A : Nat) (l1I : Int32) (l2I : Int32) (S : wPS) (Φ : (Int32 → wPS → Prop)) : Prop := rX11_standsAlready_s F (rX11_standsAlready_go F F) l0A l1I l2I S Φ
set_option maxHeartbeats 4000000 in
set_option maxRecDepth 100000 in
theorem tX11_standsAlready_go {l : Launch} {X : wkX} {d F : Nat} {S0 : wPS} {Φ : (Int32 → wPS → Prop)} (C : wkC X cX11_standsAlready RX11 5 wvX11_standsAlready) (hR : wkRm X d 0 0) (hd : 3 ≤ d) (E : wkEnd l X cX11_standsAlready 5 (some .boolean) 0 0 (fun v' S'' => ∃ v : Int32, v' = some (.int v) ∧ Φ v S'' ∧ wkWF S'' ∧ wkExt S0 S'')) : ∀ k' : Nat, (∀ (l0A : Nat) (l1I : Int32) (l2I : Int32) (l3I : Int32) (S : wPS), wkWF S → wkExt S0 S → wkIs S l0A 11 → rX11_standsAlready_go F k' 0 l0A l1I l2I l3I S Φ → wkGo l X 5 0 0 2 S [some (.ref l0A), some (.int l1I), some (.int l2I), some (.int l3I), none] []) := by
  intro k'
  induction k' with
  | zero => exact fun l0A l1I l2I l3I S hW hE hl0A h => h.elim
  | succ k' ih =>
    · intro l0A l1I l2I l3I S hW hE hl0A h
      have h : rX11_standsAlready_b0 F (rX11_standsAlready_go F k') l0A l1I l2I l3I S Φ := by
        rw [rX11_standsAlready_go, if_pos (rfl : (0 : Nat) = 0)] at h
        exact h
      unfold rX11_standsAlready_b0 at h
      refine wk_iload_n C dX11_standsAlready_2 rfl rfl ?_
      refine wk_aload_n C dX11_standsAlready_3 rfl rfl ?_
      refine wk_get C (v := .int (gWitnessworks_claimCount S l0A)) huX11_standsAlready_11 hl0A.1 (fun cy => wAt_11 cy _ hl0A.2) rfl 15 (by decide) (List.mem_of_getElem? (i := 1) rfl) rfl rfl dX11_standsAlready_4 ?_
      refine wk_icmp_ge C (tgt := 59) dX11_standsAlready_7 (by decide) (fun c1 => ?_) (fun c1 => ?_)
      · rw [if_pos c1] at h
        refine wk_iconst C (v := 0) dX11_standsAlready_59 (by decide) ?_
        exact E _ _ _ _ _ _ (Nat.le_refl 0) (Nat.le_refl 0) dX11_standsAlready_60 rfl ⟨(0 : Int32), rfl, h, hW, hE⟩
      · rw [if_neg c1] at h
        refine wk_aload_n C dX11_standsAlready_10 rfl rfl ?_
        refine wk_get C huX11_standsAlready_11 hl0A.1 (fun cy => wAt_11 cy _ hl0A.2) rfl 14 (by decide) (List.mem_of_getElem? (i := 2) rfl) rfl (congrArg some (congrArg va_rf (wf_Witnessworks_claims hW hl0A).1)) dX11_standsAlready_11 ?_
        refine wk_iload_n C dX11_standsAlready_14 rfl rfl ?_
        obtain ⟨i2, h⟩ := h
        have w3 := wf_RClaim hW (wf_Witnessworks_claims hW hl0A).2 (Nat.not_le.mp fun q => i2 (Or.inr q))
        refine wk_aaldClaim C (wf_Witnessworks_claims hW hl0A).2.1 (wf_Witnessworks_claims hW hl0A).2.2 i2 w3.1 dX11_standsAlready_15 ?_
        refine wk_astore C (lv' := [some (.ref l0A), some (.int l1I), some (.int l2I), some (.int l3I), some (.ref (wkAd (S.rA (wkAd (gWitnessworks_claims S l0A)) (l3I).toNatClampNeg)))]) dX11_standsAlready_16 (by decide) rfl ?_
        refine wk_aload C dX11_standsAlready_18 rfl ?_
        refine wk_get C (v := .int (gClaim_entry S (wkAd (S.rA (wkAd (gWitnessworks_claims S l0A)) (l3I).toNatClampNeg)))) huX11_standsAlready_0 w3.2.1 (fun cy => wAt_0 cy _ w3.2.2) rfl 1 (by decide) (List.mem_of_getElem? (i := 3) rfl) rfl rfl dX11_standsAlready_20 ?_
        refine wk_iload_n C dX11_standsAlready_23 rfl rfl ?_
        refine wk_icmp_ne C (tgt := 53) dX11_standsAlready_24 (by decide) (fun c4 => ?_) (fun c4 => ?_)
        · rw [if_neg c4] at h
          obtain ⟨x5, ex5, h⟩ := wkLt_some h
          refine wk_iinc C (lv' := [some (.ref l0A), some (.int l1I), some (.int l2I), some (.int x5), some (.ref (wkAd (S.rA (wkAd (gWitnessworks_claims S l0A)) (l3I).toNatClampNeg)))]) dX11_standsAlready_53 rfl (by rw [ex5]; rfl) (by decide) rfl ?_
          refine wk_goto C (tgt := 2) dX11_standsAlready_56 (by decide) ?_
          exact wk_forget (lv' := [some (.ref l0A), some (.int l1I), some (.int l2I), some (.int x5), none]) (wkLs.le ⟨rfl, rfl, rfl, rfl, trivial⟩) (ih _ _ _ _ _ hW hE hl0A h)
        · rw [if_pos c4] at h
          refine wk_aload C dX11_standsAlready_27 rfl ?_
          refine wk_get C (v := .int (gClaim_isWitness S (wkAd (S.rA (wkAd (gWitnessworks_claims S l0A)) (l3I).toNatClampNeg)))) huX11_standsAlready_0 w3.2.1 (fun cy => wAt_0 cy _ w3.2.2) rfl 2 (by decide) (List.mem_of_getElem? (i := 4) rfl) rfl rfl dX11_standsAlready_29 ?_
          refine wk_iload_n C dX11_standsAlready_32 rfl rfl ?_
          refine wk_icmp_ne C (tgt := 53) dX11_standsAlready_33 (by decide) (fun c6 => ?_) (fun c6 => ?_)
          · rw [if_neg c6] at h
            obtain ⟨x7, ex7, h⟩ := wkLt_some h
            refine wk_iinc C (lv' := [some (.ref l0A), some (.int l1I), some (.int l2I), some (.int x7), some (.ref (wkAd (S.rA (wkAd (gWitnessworks_claims S l0A)) (l3I).toNatClampNeg)))]) dX11_standsAlready_53 rfl (by rw [ex7]; rfl) (by decide) rfl ?_
            refine wk_goto C (tgt := 2) dX11_standsAlready_56 (by decide) ?_
            exact wk_forget (lv' := [some (.ref l0A), some (.int l1I), some (.int l2I), some (.int x7), none]) (wkLs.le ⟨rfl, rfl, rfl, rfl, trivial⟩) (ih _ _ _ _ _ hW hE hl0A h)
          · rw [if_pos c6] at h
            refine wk_aload C dX11_standsAlready_36 rfl ?_
            refine wk_get C huX11_standsAlready_0 w3.2.1 (fun cy => wAt_0 cy _ w3.2.2) rfl 3 (by decide) (List.mem_of_getElem? (i := 5) rfl) rfl (congrArg some (congrArg va_rf (wf_Claim_row hW w3.2).1)) dX11_standsAlready_38 ?_
            refine wk_aload_n C dX11_standsAlready_41 rfl rfl ?_
            refine wk_get C huX11_standsAlready_11 hl0A.1 (fun cy => wAt_11 cy _ hl0A.2) rfl 11 (by decide) (List.mem_of_getElem? (i := 6) rfl) rfl (congrArg some (congrArg va_rf (wf_Witnessworks_typed hW hl0A).1)) dX11_standsAlready_42 ?_
            refine wk_callV C hR (As := [.ref (wkAd (gWitnessworks_typed S l0A))]) (cnt := 1) (tX9_isLike (l := l) hW (wf_Claim_row hW w3.2).2 (wf_Witnessworks_typed hW hl0A).2 h) rfl (wkGoodV (List.mem_of_getElem? (i := 7) rfl) (List.mem_of_getElem? (i := 8) rfl) (List.mem_of_getElem? (i := 9) rfl) (List.mem_of_getElem? (i := 10) rfl) hbX11_standsAlready_X9_isLike gdX9_isLike) (Nat.le_trans (by decide : 2 + 1 ≤ 3) hd) (by decide) (wf_Claim_row hW w3.2).2.1 (fun cy => wAt_9 cy _ (wf_Claim_row hW w3.2).2.2) rfl ⟨by decide, by decide, by decide +kernel⟩ rfl rfl (Nat.le_of_ble_eq_true rfl) (Nat.le_refl 0) (Nat.le_refl 0) dX11_standsAlready_45 (fun v' S9 hp => ?_)
            obtain ⟨v8, rfl, h, hWS9, hXS9⟩ := hp
            refine wk_if_eq C (tgt := 53) dX11_standsAlready_48 (by decide) (fun c13 => ?_) (fun c13 => ?_)
            · rw [if_pos c13] at h
              obtain ⟨x14, ex14, h⟩ := wkLt_some h
              refine wk_iinc C (lv' := [some (.ref l0A), some (.int l1I), some (.int l2I), some (.int x14), some (.ref (wkAd (S.rA (wkAd (gWitnessworks_claims S l0A)) (l3I).toNatClampNeg)))]) dX11_standsAlready_53 rfl (by rw [ex14]; rfl) (by decide) rfl ?_
              refine wk_goto C (tgt := 2) dX11_standsAlready_56 (by decide) ?_
              exact wk_forget (lv' := [some (.ref l0A), some (.int l1I), some (.int l2I), some (.int x14), none]) (wkLs.le ⟨rfl, rfl, rfl, rfl, trivial⟩) (ih _ _ _ _ _ hWS9 (wkExt.tr hE hXS9) (hXS9 _ _ hl0A) h)
            · rw [if_neg c13] at h
              refine wk_iconst C (v := 1) dX11_standsAlready_51 (by decide) ?_
              exact E _ _ _ _ _ _ (Nat.le_refl 0) (Nat.le_refl 0) dX11_standsAlready_52 rfl ⟨(1 : Int32), rfl, h, hWS9, (wkExt.tr hE hXS9)⟩
set_option maxHeartbeats 4000000 in
set_option maxRecDepth 100000 in
theorem tX11_standsAlready {l : Launch} {g : wkG} {F : Nat}  {S : wPS} {l0A : Nat} {l1I : Int32} {l2I : Int32} {Φ : (Int32 → wPS → Prop)} (hW : wkWF S) (hl0A : wkIs S l0A 11) (h : rX11_standsAlready F l0A l1I l2I S Φ) : wkMet l g yX11_standsAlready wvX11_standsAlready 3 0 0 [.ref l0A, .int l1I, .int l2I] S (fun v' S'' => ∃ v : Int32, v' = some (.int v) ∧ Φ v S'' ∧ wkWF S'' ∧ wkExt S S'') := by
  refine wkMet_of (ret := (some .boolean)) (by decide) rfl (Nat.le_of_ble_eq_true rfl) (fun X hg C hR E => ?_)
  subst hg
  have hE : wkExt S S := wkExt.rf
  have hd : 3 ≤ 3 := Nat.le_refl _
  show wkGo l X 5 0 0 0 S [some (.ref l0A), some (.int l1I), some (.int l2I), none, none] []
  have ih := tX11_standsAlready_go (F := F) C hR hd E F
  have h : rX11_standsAlready_s F (rX11_standsAlready_go F F) l0A l1I l2I S Φ := h
  unfold rX11_standsAlready_s at h
  refine wk_iconst C (v := 0) dX11_standsAlready_0 (by decide) ?_
  refine wk_istore_n C (lv' := [some (.ref l0A), some (.int l1I), some (.int l2I), some (.int (0 : Int32)), none]) dX11_standsAlready_1 rfl (by decide) rfl ?_
  exact wk_forget (lv' := [some (.ref l0A), some (.int l1I), some (.int l2I), some (.int (0 : Int32)), none]) (wkLs.le ⟨rfl, rfl, rfl, rfl, trivial⟩) (ih _ _ _ _ _ hW hE hl0A h)
def wvX11_addError : List Cond := .code yX11_addError cX11_addError 5 none :: (([.fieldLink RX11 60 "Witnessworks" "errors" "[I", .fieldLink RX11 418 "Witnessworks" "settlings" "I", .fieldLink RX11 415 "Witnessworks" "errorCount" "I", .methodLink RX11 519 yJ7_copyOf_59c91, .static yJ7_copyOf_59c91, .initialized RJ7] : List Cond) ++ ((wsX110) ++ (wvJ7_copyOf_59c91)))
theorem huX11_addError_11 : ∀ w ∈ u_ws RX11 TX11 19, w ∈ wvX11_addError := fun w h => List.mem_cons_of_mem _ (List.mem_append_right _ (List.mem_append_left _ h))
theorem hbX11_addError_J7_copyOf_59c91 : ∀ w ∈ wvJ7_copyOf_59c91, w ∈ wvX11_addError := fun w h => List.mem_cons_of_mem _ (List.mem_append_right _ (List.mem_append_right _ h))
theorem gdX11_addError : ∀ w ∈ wvX11_addError, wkGd w := wkGdC rfl (wkGdA (wkGdL (by decide +kernel)) (wkGdA gdX11 gdJ7_copyOf_59c91))
def rX11_addError_b0 (F : Nat) (k n : Nat) (rec : Nat → Nat → Nat → Nat → Int32 → Int32 → Int32 → Int32 → wPS → (Unit → wPS → Prop) → Prop) (c s : Nat) (l0A : Nat) (l1I : Int32) (l2I : Int32) (l3I : Int32) (l4I : Int32) (S : wPS) (Φ : (Unit → wPS → Prop)) : Prop :=
  ¬ (l4I < 0 ∨ S.len (wkAd (gWitnessworks_errors S l0A)) ≤ (l4I).toNatClampNeg) ∧ wkLt (wuI S (wkAd (gWitnessworks_errors S l0A)) l4I (gWitnessworks_settlings S l0A)) fun S2 => ¬ ((l4I + (1 : Int32)) < 0 ∨ S2.len (wkAd (gWitnessworks_errors S2 l0A)) ≤ ((l4I + (1 : Int32))).toNatClampNeg) ∧ wkLt (wuI S2 (wkAd (gWitnessworks_errors S2 l0A)) (l4I + (1 : Int32)) l1I) fun S4 => ¬ ((l4I + (2 : Int32)) < 0 ∨ S4.len (wkAd (gWitnessworks_errors S4 l0A)) ≤ ((l4I + (2 : Int32))).toNatClampNeg) ∧ wkLt (wuI S4 (wkAd (gWitnessworks_errors S4 l0A)) (l4I + (2 : Int32)) l2I) fun S6 => ¬ ((l4I + (3 : Int32)) < 0 ∨ S6.len (wkAd (gWitnessworks_errors S6 l0A)) ≤ ((l4I + (3 : Int32))).toNatClampNeg) ∧ wkLt (wuI S6 (wkAd (gWitnessworks_errors S6 l0A)) (l4I + (3 : Int32)) l3I) fun S8 => wkLt (wu_Witnessworks_errorCount S8 l0A ((gWitnessworks_errorCount S8 l0A) + (1 : Int32))) fun S9 => Φ () S9
def rX11_addError_go (F : Nat) (k n : Nat) : Nat → Nat → Nat → Nat → Nat → Int32 → Int32 → Int32 → Int32 → wPS → (Unit → wPS → Prop) → Prop
  | 0, _, _, _, _, _, _, _, _, _, _ => False
  | k' + 1, lab, c, s, l0A, l1I, l2I, l3I, l4I, S, Φ => if lab = 0 then rX11_addError_b0 F k n (rX11_addError_go F k n k') c s l0A l1I l2I l3I l4I S Φ else False
def rX11_addError_s (F : Nat) (k n : Nat) (rec : Nat → Nat → Nat → Nat → Int32 → Int32 → Int32 → Int32 → wPS → (Unit → wPS → Prop) → Prop) (l0A : Nat) (l1I : Int32) (l2I : Int32) (l3I : Int32) (S : wPS) (Φ : (Unit → wPS → Prop)) : Prop :=
  if (gWitnessworks_errorCount S l0A) < (8192 : Int32) then (wkLt (((gWitnessworks_errorCount S l0A) * (4 : Int32))) fun x11 => if x11 < (Int32.ofNat (S.len (wkAd (gWitnessworks_errors S l0A)))) then (rec 0 0 0 l0A l1I l2I l3I x11 S Φ) else (∃ k16 n17 : Nat, 0 + k16 ≤ k ∧ 0 + n17 ≤ n ∧ rJ7_copyOf_59c91 F k16 n17 (wkAd (gWitnessworks_errors S l0A)) ((2 : Int32) * (Int32.ofNat (S.len (wkAd (gWitnessworks_errors S l0A))))) S fun v13 S14 => wkLt (wu_Witnessworks_errors S14 l0A (some v13)) fun S18 => rec 0 (0 + k16) (0 + n17) l0A l1I l2I l3I x11 S18 Φ)) else (Φ () S)
def rX11_addError (F : Nat) (k n : Nat) (l0A : Nat) (l1I : Int32) (l2I : Int32) (l3I : Int32) (S : wPS) (Φ : (Unit → wPS → Prop)) : Prop := rX11_addError_s F k n (rX11_addError_go F k n F) l0A l1I l2I l3I S Φ
set_option maxHeartbeats 4000000 in
set_option maxRecDepth 100000 in
theorem tX11_addError_go {k n : Nat} {l : Launch} {X : wkX} {d F : Nat} {S0 : wPS} {Φ : (Unit → wPS → Prop)} (C : wkC X cX11_addError RX11 5 wvX11_addError) (hR : wkRm X d k n) (hd : 2 ≤ d) (E : wkEnd l X cX11_addError 5 none k n (fun v' S'' => ∃ v : Unit, v' = none ∧ Φ v S'' ∧ wkWF S'' ∧ wkExt S0 S'')) : ∀ k' : Nat, (∀ (c s : Nat), c ≤ k → s ≤ n → ∀ (l0A : Nat) (l1I : Int32) (l2I : Int32) (l3I : Int32) (l4I : Int32) (S : wPS), wkWF S → wkExt S0 S → wkIs S l0A 11 → rX11_addError_go F k n k' 0 c s l0A l1I l2I l3I l4I S Φ → wkGo l X 5 c s 47 S [some (.ref l0A), some (.int l1I), some (.int l2I), some (.int l3I), some (.int l4I)] []) := by
  intro k'
  induction k' with
  | zero => exact fun c s hc hs l0A l1I l2I l3I l4I S hW hE hl0A h => h.elim
  | succ k' ih =>
    · intro c s hc hs l0A l1I l2I l3I l4I S hW hE hl0A h
      have h : rX11_addError_b0 F k n (rX11_addError_go F k n k') c s l0A l1I l2I l3I l4I S Φ := by
        rw [rX11_addError_go, if_pos (rfl : (0 : Nat) = 0)] at h
        exact h
      unfold rX11_addError_b0 at h
      refine wk_aload_n C dX11_addError_47 rfl rfl ?_
      refine wk_get C huX11_addError_11 hl0A.1 (fun cy => wAt_11 cy _ hl0A.2) rfl 16 (by decide) (List.mem_of_getElem? (i := 1) rfl) rfl (congrArg some (congrArg va_rf (wf_Witnessworks_errors hW hl0A).1)) dX11_addError_48 ?_
      refine wk_iload C dX11_addError_51 rfl ?_
      refine wk_aload_n C dX11_addError_53 rfl rfl ?_
      refine wk_get C (v := .int (gWitnessworks_settlings S l0A)) huX11_addError_11 hl0A.1 (fun cy => wAt_11 cy _ hl0A.2) rfl 18 (by decide) (List.mem_of_getElem? (i := 2) rfl) rfl rfl dX11_addError_54 ?_
      obtain ⟨i1, h⟩ := h
      obtain ⟨S2, eS2, h⟩ := wkLt_some h
      refine wk_iast C (wf_Witnessworks_errors hW hl0A).2.1 (wf_Witnessworks_errors hW hl0A).2.2 i1 eS2.symm dX11_addError_57 ?_
      have hWS2 : wkWF S2 := by rw [eS2]; exact hW
      have hXS2 : wkExt S S2 := by rw [eS2]; exact wkExt.rf
      refine wk_aload_n C dX11_addError_58 rfl rfl ?_
      refine wk_get C huX11_addError_11 (hXS2 _ _ hl0A).1 (fun cy => wAt_11 cy _ (hXS2 _ _ hl0A).2) rfl 16 (by decide) (List.mem_of_getElem? (i := 1) rfl) rfl (congrArg some (congrArg va_rf (wf_Witnessworks_errors hWS2 (hXS2 _ _ hl0A)).1)) dX11_addError_59 ?_
      refine wk_iload C dX11_addError_62 rfl ?_
      refine wk_iconst C (v := 1) dX11_addError_64 (by decide) ?_
      refine wk_iadd C dX11_addError_65 rfl ?_
      refine wk_iload_n C dX11_addError_66 rfl rfl ?_
      obtain ⟨i3, h⟩ := h
      obtain ⟨S4, eS4, h⟩ := wkLt_some h
      refine wk_iast C (wf_Witnessworks_errors hWS2 (hXS2 _ _ hl0A)).2.1 (wf_Witnessworks_errors hWS2 (hXS2 _ _ hl0A)).2.2 i3 eS4.symm dX11_addError_67 ?_
      have hWS4 : wkWF S4 := by rw [eS4]; exact hWS2
      have hXS4 : wkExt S2 S4 := by rw [eS4]; exact wkExt.rf
      refine wk_aload_n C dX11_addError_68 rfl rfl ?_
      refine wk_get C huX11_addError_11 (hXS4 _ _ (hXS2 _ _ hl0A)).1 (fun cy => wAt_11 cy _ (hXS4 _ _ (hXS2 _ _ hl0A)).2) rfl 16 (by decide) (List.mem_of_getElem? (i := 1) rfl) rfl (congrArg some (congrArg va_rf (wf_Witnessworks_errors hWS4 (hXS4 _ _ (hXS2 _ _ hl0A))).1)) dX11_addError_69 ?_
      refine wk_iload C dX11_addError_72 rfl ?_
      refine wk_iconst C (v := 2) dX11_addError_74 (by decide) ?_
      refine wk_iadd C dX11_addError_75 rfl ?_
      refine wk_iload_n C dX11_addError_76 rfl rfl ?_
      obtain ⟨i5, h⟩ := h
      obtain ⟨S6, eS6, h⟩ := wkLt_some h
      refine wk_iast C (wf_Witnessworks_errors hWS4 (hXS4 _ _ (hXS2 _ _ hl0A))).2.1 (wf_Witnessworks_errors hWS4 (hXS4 _ _ (hXS2 _ _ hl0A))).2.2 i5 eS6.symm dX11_addError_77 ?_
      have hWS6 : wkWF S6 := by rw [eS6]; exact hWS4
      have hXS6 : wkExt S4 S6 := by rw [eS6]; exact wkExt.rf
      refine wk_aload_n C dX11_addError_78 rfl rfl ?_
      refine wk_get C huX11_addError_11 (hXS6 _ _ (hXS4 _ _ (hXS2 _ _ hl0A))).1 (fun cy => wAt_11 cy _ (hXS6 _ _ (hXS4 _ _ (hXS2 _ _ hl0A))).2) rfl 16 (by decide) (List.mem_of_getElem? (i := 1) rfl) rfl (congrArg some (congrArg va_rf (wf_Witnessworks_errors hWS6 (hXS6 _ _ (hXS4 _ _ (hXS2 _ _ hl0A)))).1)) dX11_addError_79 ?_
      refine wk_iload C dX11_addError_82 rfl ?_
      refine wk_iconst C (v := 3) dX11_addError_84 (by decide) ?_
      refine wk_iadd C dX11_addError_85 rfl ?_
      refine wk_iload_n C dX11_addError_86 rfl rfl ?_
      obtain ⟨i7, h⟩ := h
      obtain ⟨S8, eS8, h⟩ := wkLt_some h
      refine wk_iast C (wf_Witnessworks_errors hWS6 (hXS6 _ _ (hXS4 _ _ (hXS2 _ _ hl0A)))).2.1 (wf_Witnessworks_errors hWS6 (hXS6 _ _ (hXS4 _ _ (hXS2 _ _ hl0A)))).2.2 i7 eS8.symm dX11_addError_87 ?_
      have hWS8 : wkWF S8 := by rw [eS8]; exact hWS6
      have hXS8 : wkExt S6 S8 := by rw [eS8]; exact wkExt.rf
      refine wk_aload_n C dX11_addError_88 rfl rfl ?_
      refine wk_dup C dX11_addError_89 rfl ?_
      refine wk_get C (v := .int (gWitnessworks_errorCount S8 l0A)) huX11_addError_11 (hXS8 _ _ (hXS6 _ _ (hXS4 _ _ (hXS2 _ _ hl0A)))).1 (fun cy => wAt_11 cy _ (hXS8 _ _ (hXS6 _ _ (hXS4 _ _ (hXS2 _ _ hl0A)))).2) rfl 17 (by decide) (List.mem_of_getElem? (i := 3) rfl) rfl rfl dX11_addError_90 ?_
      refine wk_iconst C (v := 1) dX11_addError_93 (by decide) ?_
      refine wk_iadd C dX11_addError_94 rfl ?_
      obtain ⟨S9, eS9, h⟩ := wkLt_some h
      refine wk_put C (S' := S9) huX11_addError_11 (hXS8 _ _ (hXS6 _ _ (hXS4 _ _ (hXS2 _ _ hl0A)))).1 (fun cy => wAt_11 cy _ (hXS8 _ _ (hXS6 _ _ (hXS4 _ _ (hXS2 _ _ hl0A)))).2) rfl 17 (by decide) (List.mem_of_getElem? (i := 3) rfl) rfl tyX11_ok nmX11 rfl (ty := .int) rfl rfl rfl (by show 17 < 19; decide) (fun cy b => by rw [eS9]; exact wSt_11_17 cy _ (hXS8 _ _ (hXS6 _ _ (hXS4 _ _ (hXS2 _ _ hl0A)))).2 _ b) (by rw [eS9]) dX11_addError_95 ?_
      have hWS9 : wkWF S9 := by rw [eS9]; exact hWS8
      have hXS9 : wkExt S8 S9 := by rw [eS9]; exact wkExt.rf
      exact E _ _ _ _ _ hc hs dX11_addError_98 ⟨(), rfl, h, hWS9, (wkExt.tr (wkExt.tr (wkExt.tr (wkExt.tr (wkExt.tr hE hXS2) hXS4) hXS6) hXS8) hXS9)⟩
set_option maxHeartbeats 4000000 in
set_option maxRecDepth 100000 in
theorem tX11_addError {l : Launch} {g : wkG} {F : Nat} {k n : Nat}  {S : wPS} {l0A : Nat} {l1I : Int32} {l2I : Int32} {l3I : Int32} {Φ : (Unit → wPS → Prop)} (hW : wkWF S) (hl0A : wkIs S l0A 11) (h : rX11_addError F k n l0A l1I l2I l3I S Φ) : wkMet l g yX11_addError wvX11_addError 2 k n [.ref l0A, .int l1I, .int l2I, .int l3I] S (fun v' S'' => ∃ v : Unit, v' = none ∧ Φ v S'' ∧ wkWF S'' ∧ wkExt S S'') := by
  refine wkMet_of (ret := none) (by decide) rfl (Nat.le_of_ble_eq_true rfl) (fun X hg C hR E => ?_)
  subst hg
  have hE : wkExt S S := wkExt.rf
  have hd : 2 ≤ 2 := Nat.le_refl _
  show wkGo l X 5 0 0 0 S [some (.ref l0A), some (.int l1I), some (.int l2I), some (.int l3I), none] []
  have ih := tX11_addError_go (F := F) C hR hd E F
  have h : rX11_addError_s F k n (rX11_addError_go F k n F) l0A l1I l2I l3I S Φ := h
  unfold rX11_addError_s at h
  refine wk_aload_n C dX11_addError_0 rfl rfl ?_
  refine wk_get C (v := .int (gWitnessworks_errorCount S l0A)) huX11_addError_11 hl0A.1 (fun cy => wAt_11 cy _ hl0A.2) rfl 17 (by decide) (List.mem_of_getElem? (i := 3) rfl) rfl rfl dX11_addError_1 ?_
  refine wk_sipush C (v := 8192) dX11_addError_4 (by decide) ?_
  refine wk_icmp_lt C (tgt := 11) dX11_addError_7 (by decide) (fun c10 => ?_) (fun c10 => ?_)
  · rw [if_pos c10] at h
    refine wk_aload_n C dX11_addError_11 rfl rfl ?_
    refine wk_get C (v := .int (gWitnessworks_errorCount S l0A)) huX11_addError_11 hl0A.1 (fun cy => wAt_11 cy _ hl0A.2) rfl 17 (by decide) (List.mem_of_getElem? (i := 3) rfl) rfl rfl dX11_addError_12 ?_
    refine wk_iconst C (v := 4) dX11_addError_15 (by decide) ?_
    refine wk_imul C dX11_addError_16 rfl ?_
    obtain ⟨x11, ex11, h⟩ := wkLt_some h
    refine wk_topi ex11 ?_
    refine wk_istore C (lv' := [some (.ref l0A), some (.int l1I), some (.int l2I), some (.int l3I), some (.int x11)]) dX11_addError_17 (by decide) rfl ?_
    refine wk_iload C dX11_addError_19 rfl ?_
    refine wk_aload_n C dX11_addError_21 rfl rfl ?_
    refine wk_get C huX11_addError_11 hl0A.1 (fun cy => wAt_11 cy _ hl0A.2) rfl 16 (by decide) (List.mem_of_getElem? (i := 1) rfl) rfl (congrArg some (congrArg va_rf (wf_Witnessworks_errors hW hl0A).1)) dX11_addError_22 ?_
    refine wk_ilen C (wf_Witnessworks_errors hW hl0A).2.1 (wf_Witnessworks_errors hW hl0A).2.2 rfl dX11_addError_25 ?_
    refine wk_icmp_lt C (tgt := 47) dX11_addError_26 (by decide) (fun c12 => ?_) (fun c12 => ?_)
    · rw [if_pos c12] at h
      exact wk_forget (lv' := [some (.ref l0A), some (.int l1I), some (.int l2I), some (.int l3I), some (.int x11)]) (wkLs.le ⟨rfl, rfl, rfl, rfl, rfl, trivial⟩) (ih _ _ (Nat.zero_le _) (Nat.zero_le _) _ _ _ _ _ _ hW hE hl0A h)
    · rw [if_neg c12] at h
      refine wk_aload_n C dX11_addError_29 rfl rfl ?_
      refine wk_aload_n C dX11_addError_30 rfl rfl ?_
      refine wk_get C huX11_addError_11 hl0A.1 (fun cy => wAt_11 cy _ hl0A.2) rfl 16 (by decide) (List.mem_of_getElem? (i := 1) rfl) rfl (congrArg some (congrArg va_rf (wf_Witnessworks_errors hW hl0A).1)) dX11_addError_31 ?_
      refine wk_iconst C (v := 2) dX11_addError_34 (by decide) ?_
      refine wk_aload_n C dX11_addError_35 rfl rfl ?_
      refine wk_get C huX11_addError_11 hl0A.1 (fun cy => wAt_11 cy _ hl0A.2) rfl 16 (by decide) (List.mem_of_getElem? (i := 1) rfl) rfl (congrArg some (congrArg va_rf (wf_Witnessworks_errors hW hl0A).1)) dX11_addError_36 ?_
      refine wk_ilen C (wf_Witnessworks_errors hW hl0A).2.1 (wf_Witnessworks_errors hW hl0A).2.2 rfl dX11_addError_39 ?_
      refine wk_imul C dX11_addError_40 rfl ?_
      obtain ⟨k16, n17, hk16, hn17, h⟩ := h
      refine wk_callW C hR (As := [.ref (wkAd (gWitnessworks_errors S l0A)), .int ((2 : Int32) * (Int32.ofNat (S.len (wkAd (gWitnessworks_errors S l0A)))))]) (cnt := 2) (tJ7_copyOf_59c91 (l := l) hW (wf_Witnessworks_errors hW hl0A).2 h) rfl (wkGoodW (List.mem_of_getElem? (i := 4) rfl) (List.mem_of_getElem? (i := 5) rfl) (List.mem_of_getElem? (i := 6) rfl) hbX11_addError_J7_copyOf_59c91 gdJ7_copyOf_59c91) (Nat.le_trans (by decide : 1 + 1 ≤ 2) hd) (by decide) ⟨by decide, by decide, by decide +kernel⟩ rfl rfl (Nat.le_of_ble_eq_true rfl) hk16 hn17 dX11_addError_41 (fun v' S14 hp => ?_)
      obtain ⟨v13, rfl, h, hWS14, hXS14, hIS14⟩ := hp
      obtain ⟨S18, eS18, h⟩ := wkLt_some h
      refine wk_put C (S' := S18) huX11_addError_11 (hXS14 _ _ hl0A).1 (fun cy => wAt_11 cy _ (hXS14 _ _ hl0A).2) rfl 16 (by decide) (List.mem_of_getElem? (i := 1) rfl) rfl tyX11_ok nmX11 rfl (ty := (.array .int)) rfl rfl rfl (by show 16 < 19; decide) (fun cy b => by rw [eS18]; exact wSt_11_16 cy _ (hXS14 _ _ hl0A).2 (some v13) b) (by rw [eS18]) dX11_addError_44 ?_
      have hWS18 : wkWF S18 := by rw [eS18]; exact (wkWF_Witnessworks_errors hWS14 (hXS14 _ _ hl0A) hIS14)
      have hXS18 : wkExt S14 S18 := by rw [eS18]; exact wkExt.rf
      exact wk_forget (lv' := [some (.ref l0A), some (.int l1I), some (.int l2I), some (.int l3I), some (.int x11)]) (wkLs.le ⟨rfl, rfl, rfl, rfl, rfl, trivial⟩) (ih _ _ hk16 hn17 _ _ _ _ _ _ hWS18 (wkExt.tr (wkExt.tr hE hXS14) hXS18) (hXS18 _ _ (hXS14 _ _ hl0A)) h)
  · rw [if_neg c10] at h
    exact E _ _ _ _ _ (Nat.zero_le _) (Nat.zero_le _) dX11_addError_10 ⟨(), rfl, h, hW, hE⟩
