def wvX8_writeParts : List Cond := .code yX8_writeParts cX8_writeParts 5 none :: (([.methodLink RX8 166 yX8_rootsOfPart, .instanceMethod yX8_rootsOfPart, .selects RX8 yX8_rootsOfPart yX8_rootsOfPart, .initialized RX8, .methodLink RX8 169 yX8_writeParts, .instanceMethod yX8_writeParts, .selects RX8 yX8_writeParts yX8_writeParts, .methodLink RX8 58 yX9_add, .instanceMethod yX9_add, .selects RX9 yX9_add yX9_add, .initialized RX9] : List Cond) ++ (([]) ++ (wvX8_rootsOfPart ++ (wvX9_add))))
theorem hbX8_writeParts_X8_rootsOfPart : ∀ w ∈ wvX8_rootsOfPart, w ∈ wvX8_writeParts := fun w h => List.mem_cons_of_mem _ (List.mem_append_right _ (List.mem_append_right _ (List.mem_append_left _ h)))
theorem hbX8_writeParts_X9_add : ∀ w ∈ wvX9_add, w ∈ wvX8_writeParts := fun w h => List.mem_cons_of_mem _ (List.mem_append_right _ (List.mem_append_right _ (List.mem_append_right _ h)))
theorem gdX8_writeParts : ∀ w ∈ wvX8_writeParts, wkGd w := wkGdC rfl (wkGdA (wkGdL (by decide +kernel)) (wkGdA (fun _ h => absurd h List.not_mem_nil) (wkGdA gdX8_rootsOfPart gdX9_add)))
def rX8_writeParts_a (F : Nat) (k n : Nat) (rc : Nat → Nat → Nat → Int32 → Int32 → Nat → wPS → (Unit → wPS → Prop) → Prop) (l0A : Nat) (l1I : Int32) (l2I : Int32) (l3A : Nat) (S : wPS) (Φ : (Unit → wPS → Prop)) : Prop :=
  rX8_rootsOfPart F l0A l1I l2I S fun v1 S2 => if v1 = (1 : Int32) then (∃ k22 n23 : Nat, 0 + k22 ≤ k ∧ 0 + n23 ≤ n ∧ rX9_add F k22 n23 l3A l1I S2 fun v19 S20 => ∃ k27 n28 : Nat, (0 + k22) + k27 ≤ k ∧ (0 + n23) + n28 ≤ n ∧ rX9_add F k27 n28 l3A l2I S20 fun v24 S25 => Φ () S25) else (if v1 ≤ (1 : Int32) then (Φ () S2) else (if (16 : Int32) ≤ l1I then (Φ () S2) else (∃ k12 n13 : Nat, 0 + k12 ≤ k ∧ 0 + n13 ≤ n ∧ rc k12 n13 l0A (l1I + (1 : Int32)) ((2 : Int32) * l2I) l3A S2 fun v9 S10 => ∃ k17 n18 : Nat, (0 + k12) + k17 ≤ k ∧ (0 + n13) + n18 ≤ n ∧ rc k17 n18 l0A (l1I + (1 : Int32)) (((2 : Int32) * l2I) + (1 : Int32)) l3A S10 fun v14 S15 => Φ () S15)))
def rX8_writeParts (F : Nat) : Nat → Nat → Nat → Nat → Int32 → Int32 → Nat → wPS → (Unit → wPS → Prop) → Prop
  | 0, _, _, _, _, _, _, _, _ => False
  | j + 1, k, n, l0A, l1I, l2I, l3A, S, Φ => rX8_writeParts_a F k n (rX8_writeParts F j) l0A l1I l2I l3A S Φ
set_option maxHeartbeats 4000000 in
set_option maxRecDepth 100000 in
theorem tX8_writeParts_a {l : Launch} {g : wkG} {F d0 : Nat} {k n : Nat} {rc : Nat → Nat → Nat → Int32 → Int32 → Nat → wPS → (Unit → wPS → Prop) → Prop} (hrc : ∀ (k n : Nat) (l0A : Nat) (l1I : Int32) (l2I : Int32) (l3A : Nat) (S : wPS) (Φ : (Unit → wPS → Prop)), wkWF S → wkIs S l0A 8 → wkIs S l3A 9 → rc k n l0A l1I l2I l3A S Φ → wkMet l g yX8_writeParts wvX8_writeParts d0 k n [.ref l0A, .int l1I, .int l2I, .ref l3A] S (fun v' S'' => ∃ v : Unit, v' = none ∧ Φ v S'' ∧ wkWF S'' ∧ wkExt S S'')) {S : wPS} {l0A : Nat} {l1I : Int32} {l2I : Int32} {l3A : Nat} {Φ : (Unit → wPS → Prop)} (hW : wkWF S) (hl0A : wkIs S l0A 8) (hl3A : wkIs S l3A 9) (h : rX8_writeParts_a F k n rc l0A l1I l2I l3A S Φ) {d : Nat} (hd0 : d0 + 1 ≤ d) (hd : 3 ≤ d) : wkMet l g yX8_writeParts wvX8_writeParts d k n [.ref l0A, .int l1I, .int l2I, .ref l3A] S (fun v' S'' => ∃ v : Unit, v' = none ∧ Φ v S'' ∧ wkWF S'' ∧ wkExt S S'') := by
  refine wkMet_of (ret := none) (by decide) rfl (Nat.le_of_ble_eq_true rfl) (fun X hg C hR E => ?_)
  subst hg
  have hE : wkExt S S := wkExt.rf
  show wkGo l X 5 0 0 0 S [some (.ref l0A), some (.int l1I), some (.int l2I), some (.ref l3A), none] []
  unfold rX8_writeParts_a at h
  refine wk_aload_n C dX8_writeParts_0 rfl rfl ?_
  refine wk_iload_n C dX8_writeParts_1 rfl rfl ?_
  refine wk_iload_n C dX8_writeParts_2 rfl rfl ?_
  refine wk_callV C hR (As := [.int l1I, .int l2I]) (cnt := 2) (tX8_rootsOfPart (l := l) hW hl0A h) rfl (wkGoodV (List.mem_of_getElem? (i := 1) rfl) (List.mem_of_getElem? (i := 2) rfl) (List.mem_of_getElem? (i := 3) rfl) (List.mem_of_getElem? (i := 4) rfl) hbX8_writeParts_X8_rootsOfPart gdX8_rootsOfPart) (Nat.le_trans (by decide : 2 + 1 ≤ 3) hd) (by decide) hl0A.1 (fun cy => wAt_8 cy _ hl0A.2) rfl ⟨by decide, by decide, by decide +kernel⟩ rfl rfl (Nat.le_of_ble_eq_true rfl) (Nat.zero_le _) (Nat.zero_le _) dX8_writeParts_3 (fun v' S2 hp => ?_)
  obtain ⟨v1, rfl, h, hWS2, hXS2⟩ := hp
  refine wk_istore C (lv' := [some (.ref l0A), some (.int l1I), some (.int l2I), some (.ref l3A), some (.int v1)]) dX8_writeParts_6 (by decide) rfl ?_
  refine wk_iload C dX8_writeParts_8 rfl ?_
  refine wk_iconst C (v := 1) dX8_writeParts_10 (by decide) ?_
  refine wk_icmp_ne C (tgt := 27) dX8_writeParts_11 (by decide) (fun c6 => ?_) (fun c6 => ?_)
  · rw [if_neg c6] at h
    refine wk_iload C dX8_writeParts_27 rfl ?_
    refine wk_iconst C (v := 1) dX8_writeParts_29 (by decide) ?_
    refine wk_icmp_le C (tgt := 63) dX8_writeParts_30 (by decide) (fun c7 => ?_) (fun c7 => ?_)
    · rw [if_pos c7] at h
      exact E _ _ _ _ _ (Nat.zero_le _) (Nat.zero_le _) dX8_writeParts_63 ⟨(), rfl, h, hWS2, (wkExt.tr hE hXS2)⟩
    · rw [if_neg c7] at h
      refine wk_iload_n C dX8_writeParts_33 rfl rfl ?_
      refine wk_bipush C (v := 16) dX8_writeParts_34 (by decide) ?_
      refine wk_icmp_ge C (tgt := 63) dX8_writeParts_36 (by decide) (fun c8 => ?_) (fun c8 => ?_)
      · rw [if_pos c8] at h
        exact E _ _ _ _ _ (Nat.zero_le _) (Nat.zero_le _) dX8_writeParts_63 ⟨(), rfl, h, hWS2, (wkExt.tr hE hXS2)⟩
      · rw [if_neg c8] at h
        refine wk_aload_n C dX8_writeParts_39 rfl rfl ?_
        refine wk_iload_n C dX8_writeParts_40 rfl rfl ?_
        refine wk_iconst C (v := 1) dX8_writeParts_41 (by decide) ?_
        refine wk_iadd C dX8_writeParts_42 rfl ?_
        refine wk_iconst C (v := 2) dX8_writeParts_43 (by decide) ?_
        refine wk_iload_n C dX8_writeParts_44 rfl rfl ?_
        refine wk_imul C dX8_writeParts_45 rfl ?_
        refine wk_aload_n C dX8_writeParts_46 rfl rfl ?_
        obtain ⟨k12, n13, hk12, hn13, h⟩ := h
        refine wk_callV C hR (As := [.int (l1I + (1 : Int32)), .int ((2 : Int32) * l2I), .ref l3A]) (cnt := 3) (hrc _ _ _ _ _ _ _ _ hWS2 (hXS2 _ _ hl0A) (hXS2 _ _ hl3A) h) rfl (wkGoodV (List.mem_of_getElem? (i := 5) rfl) (List.mem_of_getElem? (i := 6) rfl) (List.mem_of_getElem? (i := 7) rfl) (List.mem_of_getElem? (i := 4) rfl) (fun w h => h) gdX8_writeParts) hd0 (by decide) (hXS2 _ _ hl0A).1 (fun cy => wAt_8 cy _ (hXS2 _ _ hl0A).2) rfl ⟨by decide, by decide, by decide +kernel⟩ rfl rfl (Nat.le_of_ble_eq_true rfl) hk12 hn13 dX8_writeParts_47 (fun v' S10 hp => ?_)
        obtain ⟨v9, rfl, h, hWS10, hXS10⟩ := hp
        refine wk_aload_n C dX8_writeParts_50 rfl rfl ?_
        refine wk_iload_n C dX8_writeParts_51 rfl rfl ?_
        refine wk_iconst C (v := 1) dX8_writeParts_52 (by decide) ?_
        refine wk_iadd C dX8_writeParts_53 rfl ?_
        refine wk_iconst C (v := 2) dX8_writeParts_54 (by decide) ?_
        refine wk_iload_n C dX8_writeParts_55 rfl rfl ?_
        refine wk_imul C dX8_writeParts_56 rfl ?_
        refine wk_iconst C (v := 1) dX8_writeParts_57 (by decide) ?_
        refine wk_iadd C dX8_writeParts_58 rfl ?_
        refine wk_aload_n C dX8_writeParts_59 rfl rfl ?_
        obtain ⟨k17, n18, hk17, hn18, h⟩ := h
        refine wk_callV C hR (As := [.int (l1I + (1 : Int32)), .int (((2 : Int32) * l2I) + (1 : Int32)), .ref l3A]) (cnt := 3) (hrc _ _ _ _ _ _ _ _ hWS10 (hXS10 _ _ (hXS2 _ _ hl0A)) (hXS10 _ _ (hXS2 _ _ hl3A)) h) rfl (wkGoodV (List.mem_of_getElem? (i := 5) rfl) (List.mem_of_getElem? (i := 6) rfl) (List.mem_of_getElem? (i := 7) rfl) (List.mem_of_getElem? (i := 4) rfl) (fun w h => h) gdX8_writeParts) hd0 (by decide) (hXS10 _ _ (hXS2 _ _ hl0A)).1 (fun cy => wAt_8 cy _ (hXS10 _ _ (hXS2 _ _ hl0A)).2) rfl ⟨by decide, by decide, by decide +kernel⟩ rfl rfl (Nat.le_of_ble_eq_true rfl) hk17 hn18 dX8_writeParts_60 (fun v' S15 hp => ?_)
        obtain ⟨v14, rfl, h, hWS15, hXS15⟩ := hp
        exact E _ _ _ _ _ hk17 hn18 dX8_writeParts_63 ⟨(), rfl, h, hWS15, (wkExt.tr (wkExt.tr (wkExt.tr hE hXS2) hXS10) hXS15)⟩
  · rw [if_pos c6] at h
    refine wk_aload_n C dX8_writeParts_14 rfl rfl ?_
    refine wk_iload_n C dX8_writeParts_15 rfl rfl ?_
    obtain ⟨k22, n23, hk22, hn23, h⟩ := h
    refine wk_callV C hR (As := [.int l1I]) (cnt := 1) (tX9_add (l := l) hWS2 (hXS2 _ _ hl3A) h) rfl (wkGoodV (List.mem_of_getElem? (i := 8) rfl) (List.mem_of_getElem? (i := 9) rfl) (List.mem_of_getElem? (i := 10) rfl) (List.mem_of_getElem? (i := 11) rfl) hbX8_writeParts_X9_add gdX9_add) (Nat.le_trans (by decide : 2 + 1 ≤ 3) hd) (by decide) (hXS2 _ _ hl3A).1 (fun cy => wAt_9 cy _ (hXS2 _ _ hl3A).2) rfl ⟨by decide, by decide, by decide +kernel⟩ rfl rfl (Nat.le_of_ble_eq_true rfl) hk22 hn23 dX8_writeParts_16 (fun v' S20 hp => ?_)
    obtain ⟨v19, rfl, h, hWS20, hXS20⟩ := hp
    refine wk_aload_n C dX8_writeParts_19 rfl rfl ?_
    refine wk_iload_n C dX8_writeParts_20 rfl rfl ?_
    obtain ⟨k27, n28, hk27, hn28, h⟩ := h
    refine wk_callV C hR (As := [.int l2I]) (cnt := 1) (tX9_add (l := l) hWS20 (hXS20 _ _ (hXS2 _ _ hl3A)) h) rfl (wkGoodV (List.mem_of_getElem? (i := 8) rfl) (List.mem_of_getElem? (i := 9) rfl) (List.mem_of_getElem? (i := 10) rfl) (List.mem_of_getElem? (i := 11) rfl) hbX8_writeParts_X9_add gdX9_add) (Nat.le_trans (by decide : 2 + 1 ≤ 3) hd) (by decide) (hXS20 _ _ (hXS2 _ _ hl3A)).1 (fun cy => wAt_9 cy _ (hXS20 _ _ (hXS2 _ _ hl3A)).2) rfl ⟨by decide, by decide, by decide +kernel⟩ rfl rfl (Nat.le_of_ble_eq_true rfl) hk27 hn28 dX8_writeParts_21 (fun v' S25 hp => ?_)
    obtain ⟨v24, rfl, h, hWS25, hXS25⟩ := hp
    refine wk_goto C (tgt := 63) dX8_writeParts_24 (by decide) ?_
    exact E _ _ _ _ _ hk27 hn28 dX8_writeParts_63 ⟨(), rfl, h, hWS25, (wkExt.tr (wkExt.tr (wkExt.tr hE hXS2) hXS20) hXS25)⟩
theorem tX8_writeParts_d {l : Launch} {g : wkG} {F : Nat} : ∀ (j : Nat) (k n : Nat) (l0A : Nat) (l1I : Int32) (l2I : Int32) (l3A : Nat) (S : wPS) (Φ : (Unit → wPS → Prop)), wkWF S → wkIs S l0A 8 → wkIs S l3A 9 → rX8_writeParts F j k n l0A l1I l2I l3A S Φ → wkMet l g yX8_writeParts wvX8_writeParts (3 + j) k n [.ref l0A, .int l1I, .int l2I, .ref l3A] S (fun v' S'' => ∃ v : Unit, v' = none ∧ Φ v S'' ∧ wkWF S'' ∧ wkExt S S'')
  | 0, _, _, _, _, _, _, _, _, _, _, _,  h => h.elim
  | j + 1, _, _, _, _, _, _, S, Φ, hW, hl0A, hl3A,  h => tX8_writeParts_a (d0 := 3 + j) (tX8_writeParts_d j) hW hl0A hl3A (d := 3 + (j + 1)) h (by omega) (by omega)
theorem tX8_writeParts {l : Launch} {g : wkG} {F : Nat} {k n : Nat} {S : wPS} {l0A : Nat} {l1I : Int32} {l2I : Int32} {l3A : Nat} {Φ : (Unit → wPS → Prop)} (hW : wkWF S) (hl0A : wkIs S l0A 8) (hl3A : wkIs S l3A 9) (h : rX8_writeParts F 48 k n l0A l1I l2I l3A S Φ) : wkMet l g yX8_writeParts wvX8_writeParts 51 k n [.ref l0A, .int l1I, .int l2I, .ref l3A] S (fun v' S'' => ∃ v : Unit, v' = none ∧ Φ v S'' ∧ wkWF S'' ∧ wkExt S S'') := tX8_writeParts_d 48 _ _ _ _ _ _ S Φ hW hl0A hl3A h
def wvX8_continueChain : List Cond := .code yX8_continueChain cX8_continueChain 2 none :: (([.fieldLink RX8 23 "Witnessworks$Numbers" "chain" "[[J", .methodLink RX8 192 yX8_makeFree, .static yX8_makeFree, .initialized RX8, .fieldLink RX8 26 "Witnessworks$Numbers" "degrees" "[I", .fieldLink RX8 173 "Witnessworks$Numbers" "chainCount" "I", .methodLink RX8 196 yX8_addRest, .instanceMethod yX8_addRest, .selects RX8 yX8_addRest yX8_addRest, .methodLink RX8 83 yJ7_fill_d0a16, .static yJ7_fill_d0a16, .initialized RJ7] : List Cond) ++ ((wsX80) ++ (wvX8_makeFree ++ (wvX8_addRest ++ (wvJ7_fill_d0a16)))))
theorem huX8_continueChain_8 : ∀ w ∈ u_ws RX8 TX8 9, w ∈ wvX8_continueChain := fun w h => List.mem_cons_of_mem _ (List.mem_append_right _ (List.mem_append_left _ h))
theorem hbX8_continueChain_X8_makeFree : ∀ w ∈ wvX8_makeFree, w ∈ wvX8_continueChain := fun w h => List.mem_cons_of_mem _ (List.mem_append_right _ (List.mem_append_right _ (List.mem_append_left _ h)))
theorem hbX8_continueChain_X8_addRest : ∀ w ∈ wvX8_addRest, w ∈ wvX8_continueChain := fun w h => List.mem_cons_of_mem _ (List.mem_append_right _ (List.mem_append_right _ (List.mem_append_right _ (List.mem_append_left _ h))))
theorem hbX8_continueChain_J7_fill_d0a16 : ∀ w ∈ wvJ7_fill_d0a16, w ∈ wvX8_continueChain := fun w h => List.mem_cons_of_mem _ (List.mem_append_right _ (List.mem_append_right _ (List.mem_append_right _ (List.mem_append_right _ h))))
theorem gdX8_continueChain : ∀ w ∈ wvX8_continueChain, wkGd w := wkGdC rfl (wkGdA (wkGdL (by decide +kernel)) (wkGdA gdX8 (wkGdA gdX8_makeFree (wkGdA gdX8_addRest gdJ7_fill_d0a16))))
def rX8_continueChain_b0 (F : Nat) (rec : Nat → Nat → Int32 → wPS → (Unit → wPS → Prop) → Prop) (l0A : Nat) (l1I : Int32) (S : wPS) (Φ : (Unit → wPS → Prop)) : Prop :=
  if (4 : Int32) ≤ l1I then (¬ ((1 : Int32) < 0 ∨ S.len (wkAd (gNumbers_chain S l0A)) ≤ ((1 : Int32)).toNatClampNeg) ∧ rX8_makeFree F (wkAd (S.rA (wkAd (gNumbers_chain S l0A)) ((1 : Int32)).toNatClampNeg)) S fun v4 S5 => ¬ ((0 : Int32) < 0 ∨ S5.len (wkAd (gNumbers_degrees S5 l0A)) ≤ ((0 : Int32)).toNatClampNeg) ∧ ¬ ((1 : Int32) < 0 ∨ S5.len (wkAd (gNumbers_degrees S5 l0A)) ≤ ((1 : Int32)).toNatClampNeg) ∧ wkLt (wuI S5 (wkAd (gNumbers_degrees S5 l0A)) (1 : Int32) ((S5.rI (wkAd (gNumbers_degrees S5 l0A)) ((0 : Int32)).toNatClampNeg) - (1 : Int32))) fun S11 => wkLt (wu_Numbers_chainCount S11 l0A (2 : Int32)) fun S12 => rec 1 l0A 0 S12 Φ) else (¬ ((1 : Int32) < 0 ∨ S.len (wkAd (gNumbers_chain S l0A)) ≤ ((1 : Int32)).toNatClampNeg) ∧ ¬ ((0 : Int32) < 0 ∨ S.len (wkAd (gNumbers_chain S l0A)) ≤ ((0 : Int32)).toNatClampNeg) ∧ ¬ (l1I < 0 ∨ S.len (wkAd (S.rA (wkAd (gNumbers_chain S l0A)) ((0 : Int32)).toNatClampNeg)) ≤ (l1I).toNatClampNeg) ∧ ¬ ((l1I - (1 : Int32)) < 0 ∨ S.len (wkAd (S.rA (wkAd (gNumbers_chain S l0A)) ((1 : Int32)).toNatClampNeg)) ≤ ((l1I - (1 : Int32))).toNatClampNeg) ∧ wkLt (wuJ S (wkAd (S.rA (wkAd (gNumbers_chain S l0A)) ((1 : Int32)).toNatClampNeg)) (l1I - (1 : Int32)) ((Int32.toInt64 l1I) * (S.rJ (wkAd (S.rA (wkAd (gNumbers_chain S l0A)) ((0 : Int32)).toNatClampNeg)) (l1I).toNatClampNeg))) fun S19 => wkLt (l1I + (1 : Int32)) fun x20 => rec 0 l0A x20 S19 Φ)
def rX8_continueChain_b1 (F : Nat) (rec : Nat → Nat → Int32 → wPS → (Unit → wPS → Prop) → Prop) (l0A : Nat) (S : wPS) (Φ : (Unit → wPS → Prop)) : Prop :=
  if (5 : Int32) ≤ (gNumbers_chainCount S l0A) then (Φ () S) else (¬ (((gNumbers_chainCount S l0A) - (1 : Int32)) < 0 ∨ S.len (wkAd (gNumbers_degrees S l0A)) ≤ (((gNumbers_chainCount S l0A) - (1 : Int32))).toNatClampNeg) ∧ if (S.rI (wkAd (gNumbers_degrees S l0A)) (((gNumbers_chainCount S l0A) - (1 : Int32))).toNatClampNeg) ≤ 0 then (Φ () S) else (rX8_addRest F l0A S fun v24 S25 => if v24 = 0 then (Φ () S25) else (¬ ((gNumbers_chainCount S25 l0A) < 0 ∨ S25.len (wkAd (gNumbers_chain S25 l0A)) ≤ ((gNumbers_chainCount S25 l0A)).toNatClampNeg) ∧ rX8_makeFree F (wkAd (S25.rA (wkAd (gNumbers_chain S25 l0A)) ((gNumbers_chainCount S25 l0A)).toNatClampNeg)) S25 fun v32 S33 => wkLt (wu_Numbers_chainCount S33 l0A ((gNumbers_chainCount S33 l0A) + (1 : Int32))) fun S37 => rec 1 l0A 0 S37 Φ)))
def rX8_continueChain_go (F : Nat) : Nat → Nat → Nat → Int32 → wPS → (Unit → wPS → Prop) → Prop
  | 0, _, _, _, _, _ => False
  | k' + 1, lab, l0A, l1I, S, Φ => if lab = 0 then rX8_continueChain_b0 F (rX8_continueChain_go F k') l0A l1I S Φ else if lab = 1 then rX8_continueChain_b1 F (rX8_continueChain_go F k') l0A S Φ else False
def rX8_continueChain_s (F : Nat) (rec : Nat → Nat → Int32 → wPS → (Unit → wPS → Prop) → Prop) (l0A : Nat) (S : wPS) (Φ : (Unit → wPS → Prop)) : Prop :=
  wkLt (wu_Numbers_chainCount S l0A (1 : Int32)) fun S38 => ¬ ((0 : Int32) < 0 ∨ S38.len (wkAd (gNumbers_degrees S38 l0A)) ≤ ((0 : Int32)).toNatClampNeg) ∧ if (S38.rI (wkAd (gNumbers_degrees S38 l0A)) ((0 : Int32)).toNatClampNeg) = 0 then (Φ () S38) else (¬ ((1 : Int32) < 0 ∨ S38.len (wkAd (gNumbers_chain S38 l0A)) ≤ ((1 : Int32)).toNatClampNeg) ∧ rJ7_fill_d0a16 F (wkAd (S38.rA (wkAd (gNumbers_chain S38 l0A)) ((1 : Int32)).toNatClampNeg)) (0 : Int64) S38 fun v43 S44 => rec 0 l0A (1 : Int32) S44 Φ)
def rX8_continueChain (F : Nat) (l0A : Nat) (S : wPS) (Φ : (Unit → wPS → Prop)) : Prop := rX8_continueChain_s F (rX8_continueChain_go F F) l0A S Φ
set_option maxHeartbeats 4000000 in
set_option maxRecDepth 100000 in
theorem tX8_continueChain_go {l : Launch} {X : wkX} {d F : Nat} {S0 : wPS} {Φ : (Unit → wPS → Prop)} (C : wkC X cX8_continueChain RX8 2 wvX8_continueChain) (hR : wkRm X d 0 0) (hd : 3 ≤ d) (E : wkEnd l X cX8_continueChain 2 none 0 0 (fun v' S'' => ∃ v : Unit, v' = none ∧ Φ v S'' ∧ wkWF S'' ∧ wkExt S0 S'')) : ∀ k' : Nat, (∀ (l0A : Nat) (l1I : Int32) (S : wPS), wkWF S → wkExt S0 S → wkIs S l0A 8 → rX8_continueChain_go F k' 0 l0A l1I S Φ → wkGo l X 2 0 0 27 S [some (.ref l0A), some (.int l1I)] []) ∧ (∀ (l0A : Nat) (S : wPS), wkWF S → wkExt S0 S → wkIs S l0A 8 → rX8_continueChain_go F k' 1 l0A 0 S Φ → wkGo l X 2 0 0 87 S [some (.ref l0A), none] []) := by
  intro k'
  induction k' with
  | zero => exact ⟨fun l0A l1I S hW hE hl0A h => h.elim, fun l0A S hW hE hl0A h => h.elim⟩
  | succ k' ih =>
    refine ⟨?_, ?_⟩
    · intro l0A l1I S hW hE hl0A h
      have h : rX8_continueChain_b0 F (rX8_continueChain_go F k') l0A l1I S Φ := by
        rw [rX8_continueChain_go, if_pos (rfl : (0 : Nat) = 0)] at h
        exact h
      unfold rX8_continueChain_b0 at h
      refine wk_iload_n C dX8_continueChain_27 rfl rfl ?_
      refine wk_iconst C (v := 4) dX8_continueChain_28 (by decide) ?_
      refine wk_icmp_ge C (tgt := 59) dX8_continueChain_29 (by decide) (fun c1 => ?_) (fun c1 => ?_)
      · rw [if_pos c1] at h
        refine wk_aload_n C dX8_continueChain_59 rfl rfl ?_
        refine wk_get C huX8_continueChain_8 hl0A.1 (fun cy => wAt_8 cy _ hl0A.2) rfl 4 (by decide) (List.mem_of_getElem? (i := 1) rfl) rfl (congrArg some (congrArg va_rf (wf_Numbers_chain hW hl0A).1)) dX8_continueChain_60 ?_
        refine wk_iconst C (v := 1) dX8_continueChain_63 (by decide) ?_
        obtain ⟨i2, h⟩ := h
        have w3 := wf_R_J hW (wf_Numbers_chain hW hl0A).2 (Nat.not_le.mp fun q => i2 (Or.inr q))
        refine wk_aald_J C (wf_Numbers_chain hW hl0A).2.1 (wf_Numbers_chain hW hl0A).2.2 i2 w3.1 dX8_continueChain_64 ?_
        refine wk_callW C hR (As := [.ref (wkAd (S.rA (wkAd (gNumbers_chain S l0A)) ((1 : Int32)).toNatClampNeg))]) (cnt := 1) (tX8_makeFree (l := l) hW w3.2 h) rfl (wkGoodW (List.mem_of_getElem? (i := 2) rfl) (List.mem_of_getElem? (i := 3) rfl) (List.mem_of_getElem? (i := 4) rfl) hbX8_continueChain_X8_makeFree gdX8_makeFree) (Nat.le_trans (by decide : 2 + 1 ≤ 3) hd) (by decide) ⟨by decide, by decide, by decide +kernel⟩ rfl rfl (Nat.le_of_ble_eq_true rfl) (Nat.le_refl 0) (Nat.le_refl 0) dX8_continueChain_65 (fun v' S5 hp => ?_)
        obtain ⟨v4, rfl, h, hWS5, hXS5⟩ := hp
        refine wk_aload_n C dX8_continueChain_68 rfl rfl ?_
        refine wk_get C huX8_continueChain_8 (hXS5 _ _ hl0A).1 (fun cy => wAt_8 cy _ (hXS5 _ _ hl0A).2) rfl 5 (by decide) (List.mem_of_getElem? (i := 5) rfl) rfl (congrArg some (congrArg va_rf (wf_Numbers_degrees hWS5 (hXS5 _ _ hl0A)).1)) dX8_continueChain_69 ?_
        refine wk_iconst C (v := 1) dX8_continueChain_72 (by decide) ?_
        refine wk_aload_n C dX8_continueChain_73 rfl rfl ?_
        refine wk_get C huX8_continueChain_8 (hXS5 _ _ hl0A).1 (fun cy => wAt_8 cy _ (hXS5 _ _ hl0A).2) rfl 5 (by decide) (List.mem_of_getElem? (i := 5) rfl) rfl (congrArg some (congrArg va_rf (wf_Numbers_degrees hWS5 (hXS5 _ _ hl0A)).1)) dX8_continueChain_74 ?_
        refine wk_iconst C (v := 0) dX8_continueChain_77 (by decide) ?_
        obtain ⟨i9, h⟩ := h
        refine wk_iald C (wf_Numbers_degrees hWS5 (hXS5 _ _ hl0A)).2.1 (wf_Numbers_degrees hWS5 (hXS5 _ _ hl0A)).2.2 i9 rfl dX8_continueChain_78 ?_
        refine wk_iconst C (v := 1) dX8_continueChain_79 (by decide) ?_
        refine wk_isub C dX8_continueChain_80 rfl ?_
        obtain ⟨i10, h⟩ := h
        obtain ⟨S11, eS11, h⟩ := wkLt_some h
        refine wk_iast C (wf_Numbers_degrees hWS5 (hXS5 _ _ hl0A)).2.1 (wf_Numbers_degrees hWS5 (hXS5 _ _ hl0A)).2.2 i10 eS11.symm dX8_continueChain_81 ?_
        have hWS11 : wkWF S11 := by rw [eS11]; exact hWS5
        have hXS11 : wkExt S5 S11 := by rw [eS11]; exact wkExt.rf
        refine wk_aload_n C dX8_continueChain_82 rfl rfl ?_
        refine wk_iconst C (v := 2) dX8_continueChain_83 (by decide) ?_
        obtain ⟨S12, eS12, h⟩ := wkLt_some h
        refine wk_put C (S' := S12) huX8_continueChain_8 (hXS11 _ _ (hXS5 _ _ hl0A)).1 (fun cy => wAt_8 cy _ (hXS11 _ _ (hXS5 _ _ hl0A)).2) rfl 8 (by decide) (List.mem_of_getElem? (i := 6) rfl) rfl tyX8_ok nmX8 rfl (ty := .int) rfl rfl rfl (by show 8 < 9; decide) (fun cy b => by rw [eS12]; exact wSt_8_8 cy _ (hXS11 _ _ (hXS5 _ _ hl0A)).2 _ b) (by rw [eS12]) dX8_continueChain_84 ?_
        have hWS12 : wkWF S12 := by rw [eS12]; exact hWS11
        have hXS12 : wkExt S11 S12 := by rw [eS12]; exact wkExt.rf
        exact wk_forget (lv' := [some (.ref l0A), none]) (wkLs.le ⟨rfl, trivial⟩) (ih.2 _ _ hWS12 (wkExt.tr (wkExt.tr (wkExt.tr hE hXS5) hXS11) hXS12) (hXS12 _ _ (hXS11 _ _ (hXS5 _ _ hl0A))) h)
      · rw [if_neg c1] at h
        refine wk_aload_n C dX8_continueChain_32 rfl rfl ?_
        refine wk_get C huX8_continueChain_8 hl0A.1 (fun cy => wAt_8 cy _ hl0A.2) rfl 4 (by decide) (List.mem_of_getElem? (i := 1) rfl) rfl (congrArg some (congrArg va_rf (wf_Numbers_chain hW hl0A).1)) dX8_continueChain_33 ?_
        refine wk_iconst C (v := 1) dX8_continueChain_36 (by decide) ?_
        obtain ⟨i13, h⟩ := h
        have w14 := wf_R_J hW (wf_Numbers_chain hW hl0A).2 (Nat.not_le.mp fun q => i13 (Or.inr q))
        refine wk_aald_J C (wf_Numbers_chain hW hl0A).2.1 (wf_Numbers_chain hW hl0A).2.2 i13 w14.1 dX8_continueChain_37 ?_
        refine wk_iload_n C dX8_continueChain_38 rfl rfl ?_
        refine wk_iconst C (v := 1) dX8_continueChain_39 (by decide) ?_
        refine wk_isub C dX8_continueChain_40 rfl ?_
        refine wk_iload_n C dX8_continueChain_41 rfl rfl ?_
        refine wk_i2l C dX8_continueChain_42 rfl ?_
        refine wk_aload_n C dX8_continueChain_43 rfl rfl ?_
        refine wk_get C huX8_continueChain_8 hl0A.1 (fun cy => wAt_8 cy _ hl0A.2) rfl 4 (by decide) (List.mem_of_getElem? (i := 1) rfl) rfl (congrArg some (congrArg va_rf (wf_Numbers_chain hW hl0A).1)) dX8_continueChain_44 ?_
        refine wk_iconst C (v := 0) dX8_continueChain_47 (by decide) ?_
        obtain ⟨i15, h⟩ := h
        have w16 := wf_R_J hW (wf_Numbers_chain hW hl0A).2 (Nat.not_le.mp fun q => i15 (Or.inr q))
        refine wk_aald_J C (wf_Numbers_chain hW hl0A).2.1 (wf_Numbers_chain hW hl0A).2.2 i15 w16.1 dX8_continueChain_48 ?_
        refine wk_iload_n C dX8_continueChain_49 rfl rfl ?_
        obtain ⟨i17, h⟩ := h
        refine wk_lald C w16.2.1 w16.2.2 i17 rfl dX8_continueChain_50 ?_
        refine wk_lmul C dX8_continueChain_51 rfl ?_
        obtain ⟨i18, h⟩ := h
        obtain ⟨S19, eS19, h⟩ := wkLt_some h
        refine wk_last C w14.2.1 w14.2.2 i18 eS19.symm dX8_continueChain_52 ?_
        have hWS19 : wkWF S19 := by rw [eS19]; exact hW
        have hXS19 : wkExt S S19 := by rw [eS19]; exact wkExt.rf
        obtain ⟨x20, ex20, h⟩ := wkLt_some h
        refine wk_iinc C (lv' := [some (.ref l0A), some (.int x20)]) dX8_continueChain_53 rfl (by rw [ex20]; rfl) (by decide) rfl ?_
        refine wk_goto C (tgt := 27) dX8_continueChain_56 (by decide) ?_
        exact wk_forget (lv' := [some (.ref l0A), some (.int x20)]) (wkLs.le ⟨rfl, rfl, trivial⟩) (ih.1 _ _ _ hWS19 (wkExt.tr hE hXS19) (hXS19 _ _ hl0A) h)
    · intro l0A S hW hE hl0A h
      have h : rX8_continueChain_b1 F (rX8_continueChain_go F k') l0A S Φ := by
        rw [rX8_continueChain_go, if_neg (show ¬ (1 : Nat) = 0 by decide), if_pos (rfl : (1 : Nat) = 1)] at h
        exact h
      unfold rX8_continueChain_b1 at h
      refine wk_aload_n C dX8_continueChain_87 rfl rfl ?_
      refine wk_get C (v := .int (gNumbers_chainCount S l0A)) huX8_continueChain_8 hl0A.1 (fun cy => wAt_8 cy _ hl0A.2) rfl 8 (by decide) (List.mem_of_getElem? (i := 6) rfl) rfl rfl dX8_continueChain_88 ?_
      refine wk_iconst C (v := 5) dX8_continueChain_91 (by decide) ?_
      refine wk_icmp_ge C (tgt := 141) dX8_continueChain_92 (by decide) (fun c21 => ?_) (fun c21 => ?_)
      · rw [if_pos c21] at h
        exact E _ _ _ _ _ (Nat.le_refl 0) (Nat.le_refl 0) dX8_continueChain_141 ⟨(), rfl, h, hW, hE⟩
      · rw [if_neg c21] at h
        refine wk_aload_n C dX8_continueChain_95 rfl rfl ?_
        refine wk_get C huX8_continueChain_8 hl0A.1 (fun cy => wAt_8 cy _ hl0A.2) rfl 5 (by decide) (List.mem_of_getElem? (i := 5) rfl) rfl (congrArg some (congrArg va_rf (wf_Numbers_degrees hW hl0A).1)) dX8_continueChain_96 ?_
        refine wk_aload_n C dX8_continueChain_99 rfl rfl ?_
        refine wk_get C (v := .int (gNumbers_chainCount S l0A)) huX8_continueChain_8 hl0A.1 (fun cy => wAt_8 cy _ hl0A.2) rfl 8 (by decide) (List.mem_of_getElem? (i := 6) rfl) rfl rfl dX8_continueChain_100 ?_
        refine wk_iconst C (v := 1) dX8_continueChain_103 (by decide) ?_
        refine wk_isub C dX8_continueChain_104 rfl ?_
        obtain ⟨i22, h⟩ := h
        refine wk_iald C (wf_Numbers_degrees hW hl0A).2.1 (wf_Numbers_degrees hW hl0A).2.2 i22 rfl dX8_continueChain_105 ?_
        refine wk_if_le C (tgt := 141) dX8_continueChain_106 (by decide) (fun c23 => ?_) (fun c23 => ?_)
        · rw [if_pos c23] at h
          exact E _ _ _ _ _ (Nat.le_refl 0) (Nat.le_refl 0) dX8_continueChain_141 ⟨(), rfl, h, hW, hE⟩
        · rw [if_neg c23] at h
          refine wk_aload_n C dX8_continueChain_109 rfl rfl ?_
          refine wk_callV C hR (As := []) (cnt := 0) (tX8_addRest (l := l) hW hl0A h) rfl (wkGoodV (List.mem_of_getElem? (i := 7) rfl) (List.mem_of_getElem? (i := 8) rfl) (List.mem_of_getElem? (i := 9) rfl) (List.mem_of_getElem? (i := 4) rfl) hbX8_continueChain_X8_addRest gdX8_addRest) (Nat.le_trans (by decide : 2 + 1 ≤ 3) hd) (by decide) hl0A.1 (fun cy => wAt_8 cy _ hl0A.2) rfl ⟨by decide, by decide, by decide +kernel⟩ rfl rfl (Nat.le_of_ble_eq_true rfl) (Nat.le_refl 0) (Nat.le_refl 0) dX8_continueChain_110 (fun v' S25 hp => ?_)
          obtain ⟨v24, rfl, h, hWS25, hXS25⟩ := hp
          refine wk_if_eq C (tgt := 141) dX8_continueChain_113 (by decide) (fun c29 => ?_) (fun c29 => ?_)
          · rw [if_pos c29] at h
            exact E _ _ _ _ _ (Nat.le_refl 0) (Nat.le_refl 0) dX8_continueChain_141 ⟨(), rfl, h, hWS25, (wkExt.tr hE hXS25)⟩
          · rw [if_neg c29] at h
            refine wk_aload_n C dX8_continueChain_116 rfl rfl ?_
            refine wk_get C huX8_continueChain_8 (hXS25 _ _ hl0A).1 (fun cy => wAt_8 cy _ (hXS25 _ _ hl0A).2) rfl 4 (by decide) (List.mem_of_getElem? (i := 1) rfl) rfl (congrArg some (congrArg va_rf (wf_Numbers_chain hWS25 (hXS25 _ _ hl0A)).1)) dX8_continueChain_117 ?_
            refine wk_aload_n C dX8_continueChain_120 rfl rfl ?_
            refine wk_get C (v := .int (gNumbers_chainCount S25 l0A)) huX8_continueChain_8 (hXS25 _ _ hl0A).1 (fun cy => wAt_8 cy _ (hXS25 _ _ hl0A).2) rfl 8 (by decide) (List.mem_of_getElem? (i := 6) rfl) rfl rfl dX8_continueChain_121 ?_
            obtain ⟨i30, h⟩ := h
            have w31 := wf_R_J hWS25 (wf_Numbers_chain hWS25 (hXS25 _ _ hl0A)).2 (Nat.not_le.mp fun q => i30 (Or.inr q))
            refine wk_aald_J C (wf_Numbers_chain hWS25 (hXS25 _ _ hl0A)).2.1 (wf_Numbers_chain hWS25 (hXS25 _ _ hl0A)).2.2 i30 w31.1 dX8_continueChain_124 ?_
            refine wk_callW C hR (As := [.ref (wkAd (S25.rA (wkAd (gNumbers_chain S25 l0A)) ((gNumbers_chainCount S25 l0A)).toNatClampNeg))]) (cnt := 1) (tX8_makeFree (l := l) hWS25 w31.2 h) rfl (wkGoodW (List.mem_of_getElem? (i := 2) rfl) (List.mem_of_getElem? (i := 3) rfl) (List.mem_of_getElem? (i := 4) rfl) hbX8_continueChain_X8_makeFree gdX8_makeFree) (Nat.le_trans (by decide : 2 + 1 ≤ 3) hd) (by decide) ⟨by decide, by decide, by decide +kernel⟩ rfl rfl (Nat.le_of_ble_eq_true rfl) (Nat.le_refl 0) (Nat.le_refl 0) dX8_continueChain_125 (fun v' S33 hp => ?_)
            obtain ⟨v32, rfl, h, hWS33, hXS33⟩ := hp
            refine wk_aload_n C dX8_continueChain_128 rfl rfl ?_
            refine wk_dup C dX8_continueChain_129 rfl ?_
            refine wk_get C (v := .int (gNumbers_chainCount S33 l0A)) huX8_continueChain_8 (hXS33 _ _ (hXS25 _ _ hl0A)).1 (fun cy => wAt_8 cy _ (hXS33 _ _ (hXS25 _ _ hl0A)).2) rfl 8 (by decide) (List.mem_of_getElem? (i := 6) rfl) rfl rfl dX8_continueChain_130 ?_
            refine wk_iconst C (v := 1) dX8_continueChain_133 (by decide) ?_
            refine wk_iadd C dX8_continueChain_134 rfl ?_
            obtain ⟨S37, eS37, h⟩ := wkLt_some h
            refine wk_put C (S' := S37) huX8_continueChain_8 (hXS33 _ _ (hXS25 _ _ hl0A)).1 (fun cy => wAt_8 cy _ (hXS33 _ _ (hXS25 _ _ hl0A)).2) rfl 8 (by decide) (List.mem_of_getElem? (i := 6) rfl) rfl tyX8_ok nmX8 rfl (ty := .int) rfl rfl rfl (by show 8 < 9; decide) (fun cy b => by rw [eS37]; exact wSt_8_8 cy _ (hXS33 _ _ (hXS25 _ _ hl0A)).2 _ b) (by rw [eS37]) dX8_continueChain_135 ?_
            have hWS37 : wkWF S37 := by rw [eS37]; exact hWS33
            have hXS37 : wkExt S33 S37 := by rw [eS37]; exact wkExt.rf
            refine wk_goto C (tgt := 87) dX8_continueChain_138 (by decide) ?_
            exact wk_forget (lv' := [some (.ref l0A), none]) (wkLs.le ⟨rfl, trivial⟩) (ih.2 _ _ hWS37 (wkExt.tr (wkExt.tr (wkExt.tr hE hXS25) hXS33) hXS37) (hXS37 _ _ (hXS33 _ _ (hXS25 _ _ hl0A))) h)
set_option maxHeartbeats 4000000 in
set_option maxRecDepth 100000 in
theorem tX8_continueChain {l : Launch} {g : wkG} {F : Nat}  {S : wPS} {l0A : Nat} {Φ : (Unit → wPS → Prop)} (hW : wkWF S) (hl0A : wkIs S l0A 8) (h : rX8_continueChain F l0A S Φ) : wkMet l g yX8_continueChain wvX8_continueChain 3 0 0 [.ref l0A] S (fun v' S'' => ∃ v : Unit, v' = none ∧ Φ v S'' ∧ wkWF S'' ∧ wkExt S S'') := by
  refine wkMet_of (ret := none) (by decide) rfl (Nat.le_of_ble_eq_true rfl) (fun X hg C hR E => ?_)
  subst hg
  have hE : wkExt S S := wkExt.rf
  have hd : 3 ≤ 3 := Nat.le_refl _
  show wkGo l X 2 0 0 0 S [some (.ref l0A), none] []
  have ih := tX8_continueChain_go (F := F) C hR hd E F
  have h : rX8_continueChain_s F (rX8_continueChain_go F F) l0A S Φ := h
  unfold rX8_continueChain_s at h
  refine wk_aload_n C dX8_continueChain_0 rfl rfl ?_
  refine wk_iconst C (v := 1) dX8_continueChain_1 (by decide) ?_
  obtain ⟨S38, eS38, h⟩ := wkLt_some h
  refine wk_put C (S' := S38) huX8_continueChain_8 hl0A.1 (fun cy => wAt_8 cy _ hl0A.2) rfl 8 (by decide) (List.mem_of_getElem? (i := 6) rfl) rfl tyX8_ok nmX8 rfl (ty := .int) rfl rfl rfl (by show 8 < 9; decide) (fun cy b => by rw [eS38]; exact wSt_8_8 cy _ hl0A.2 _ b) (by rw [eS38]) dX8_continueChain_2 ?_
  have hWS38 : wkWF S38 := by rw [eS38]; exact hW
  have hXS38 : wkExt S S38 := by rw [eS38]; exact wkExt.rf
  refine wk_aload_n C dX8_continueChain_5 rfl rfl ?_
  refine wk_get C huX8_continueChain_8 (hXS38 _ _ hl0A).1 (fun cy => wAt_8 cy _ (hXS38 _ _ hl0A).2) rfl 5 (by decide) (List.mem_of_getElem? (i := 5) rfl) rfl (congrArg some (congrArg va_rf (wf_Numbers_degrees hWS38 (hXS38 _ _ hl0A)).1)) dX8_continueChain_6 ?_
  refine wk_iconst C (v := 0) dX8_continueChain_9 (by decide) ?_
  obtain ⟨i39, h⟩ := h
  refine wk_iald C (wf_Numbers_degrees hWS38 (hXS38 _ _ hl0A)).2.1 (wf_Numbers_degrees hWS38 (hXS38 _ _ hl0A)).2.2 i39 rfl dX8_continueChain_10 ?_
  refine wk_if_ne C (tgt := 15) dX8_continueChain_11 (by decide) (fun c40 => ?_) (fun c40 => ?_)
  · rw [if_neg c40] at h
    refine wk_aload_n C dX8_continueChain_15 rfl rfl ?_
    refine wk_get C huX8_continueChain_8 (hXS38 _ _ hl0A).1 (fun cy => wAt_8 cy _ (hXS38 _ _ hl0A).2) rfl 4 (by decide) (List.mem_of_getElem? (i := 1) rfl) rfl (congrArg some (congrArg va_rf (wf_Numbers_chain hWS38 (hXS38 _ _ hl0A)).1)) dX8_continueChain_16 ?_
    refine wk_iconst C (v := 1) dX8_continueChain_19 (by decide) ?_
    obtain ⟨i41, h⟩ := h
    have w42 := wf_R_J hWS38 (wf_Numbers_chain hWS38 (hXS38 _ _ hl0A)).2 (Nat.not_le.mp fun q => i41 (Or.inr q))
    refine wk_aald_J C (wf_Numbers_chain hWS38 (hXS38 _ _ hl0A)).2.1 (wf_Numbers_chain hWS38 (hXS38 _ _ hl0A)).2.2 i41 w42.1 dX8_continueChain_20 ?_
    refine wk_lconst C (v := 0) dX8_continueChain_21 (by decide) ?_
    refine wk_callW C hR (As := [.ref (wkAd (S38.rA (wkAd (gNumbers_chain S38 l0A)) ((1 : Int32)).toNatClampNeg)), .long (0 : Int64)]) (cnt := 2) (tJ7_fill_d0a16 (l := l) hWS38 w42.2 h) rfl (wkGoodW (List.mem_of_getElem? (i := 10) rfl) (List.mem_of_getElem? (i := 11) rfl) (List.mem_of_getElem? (i := 12) rfl) hbX8_continueChain_J7_fill_d0a16 gdJ7_fill_d0a16) (Nat.le_trans (by decide : 0 + 1 ≤ 3) hd) (by decide) ⟨by decide, by decide, by decide +kernel⟩ rfl rfl (Nat.le_of_ble_eq_true rfl) (Nat.le_refl 0) (Nat.le_refl 0) dX8_continueChain_22 (fun v' S44 hp => ?_)
    obtain ⟨v43, rfl, h, hWS44, hXS44⟩ := hp
    refine wk_iconst C (v := 1) dX8_continueChain_25 (by decide) ?_
    refine wk_istore_n C (lv' := [some (.ref l0A), some (.int (1 : Int32))]) dX8_continueChain_26 rfl (by decide) rfl ?_
    exact wk_forget (lv' := [some (.ref l0A), some (.int (1 : Int32))]) (wkLs.le ⟨rfl, rfl, trivial⟩) (ih.1 _ _ _ hWS44 (wkExt.tr (wkExt.tr hE hXS38) hXS44) (hXS44 _ _ (hXS38 _ _ hl0A)) h)
  · rw [if_pos c40] at h
    exact E _ _ _ _ _ (Nat.le_refl 0) (Nat.le_refl 0) dX8_continueChain_14 ⟨(), rfl, h, hWS38, (wkExt.tr hE hXS38)⟩
