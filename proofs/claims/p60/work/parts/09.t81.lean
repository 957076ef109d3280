def wvX4_carriesOver : List Cond := .code yX4_carriesOver cX4_carriesOver 4 (some .boolean) :: (([.fieldLink RX4 75 "Witnessworks$Entry" "kind" "I", .methodLink RX4 233 yX4_carriesEdges, .instanceMethod yX4_carriesEdges, .selects RX4 yX4_carriesEdges yX4_carriesEdges, .initialized RX4, .methodLink RX4 230 yX4_carriesFlows, .instanceMethod yX4_carriesFlows, .selects RX4 yX4_carriesFlows yX4_carriesFlows, .methodLink RX4 226 yX4_carriesPairings, .instanceMethod yX4_carriesPairings, .selects RX4 yX4_carriesPairings yX4_carriesPairings] : List Cond) ++ ((wsX30) ++ (wvX4_carriesEdges ++ (wvX4_carriesFlows ++ (wvX4_carriesPairings)))))
theorem huX4_carriesOver_3 : ∀ w ∈ u_ws RX3 TX3 17, w ∈ wvX4_carriesOver := fun w h => List.mem_cons_of_mem _ (List.mem_append_right _ (List.mem_append_left _ h))
theorem hbX4_carriesOver_X4_carriesEdges : ∀ w ∈ wvX4_carriesEdges, w ∈ wvX4_carriesOver := fun w h => List.mem_cons_of_mem _ (List.mem_append_right _ (List.mem_append_right _ (List.mem_append_left _ h)))
theorem hbX4_carriesOver_X4_carriesFlows : ∀ w ∈ wvX4_carriesFlows, w ∈ wvX4_carriesOver := fun w h => List.mem_cons_of_mem _ (List.mem_append_right _ (List.mem_append_right _ (List.mem_append_right _ (List.mem_append_left _ h))))
theorem hbX4_carriesOver_X4_carriesPairings : ∀ w ∈ wvX4_carriesPairings, w ∈ wvX4_carriesOver := fun w h => List.mem_cons_of_mem _ (List.mem_append_right _ (List.mem_append_right _ (List.mem_append_right _ (List.mem_append_right _ h))))
theorem gdX4_carriesOver : ∀ w ∈ wvX4_carriesOver, wkGd w := wkGdC rfl (wkGdA (wkGdL (by decide +kernel)) (wkGdA gdX3 (wkGdA gdX4_carriesEdges (wkGdA gdX4_carriesFlows gdX4_carriesPairings))))
def rX4_carriesOver_b0 (F : Nat) (rec : Nat → Nat → Nat → Int32 → Nat → wPS → (Int32 → wPS → Prop) → Prop) (l0A : Nat) (l1A : Nat) (l2I : Int32) (l3A : Nat) (S : wPS) (Φ : (Int32 → wPS → Prop)) : Prop :=
  if (gEntry_kind S l1A) = (1 : Int32) then (if l2I = (3 : Int32) then (rX4_carriesFlows F l0A l1A l3A S fun v19 S20 => (v19 = 0 ∨ v19 = 1) ∧ Φ v19 S20) else (if (gEntry_kind S l1A) = 0 then (if l2I = (4 : Int32) then (rX4_carriesEdges F l0A l1A l3A S fun v13 S14 => (v13 = 0 ∨ v13 = 1) ∧ Φ v13 S14) else (Φ (0 : Int32) S)) else (Φ (0 : Int32) S))) else (if (gEntry_kind S l1A) = 0 then (if l2I = (4 : Int32) then (rX4_carriesEdges F l0A l1A l3A S fun v4 S5 => (v4 = 0 ∨ v4 = 1) ∧ Φ v4 S5) else (Φ (0 : Int32) S)) else (Φ (0 : Int32) S))
def rX4_carriesOver_go (F : Nat) : Nat → Nat → Nat → Nat → Int32 → Nat → wPS → (Int32 → wPS → Prop) → Prop
  | 0, _, _, _, _, _, _, _ => False
  | k' + 1, lab, l0A, l1A, l2I, l3A, S, Φ => if lab = 0 then rX4_carriesOver_b0 F (rX4_carriesOver_go F k') l0A l1A l2I l3A S Φ else False
def rX4_carriesOver_s (F : Nat) (rec : Nat → Nat → Nat → Int32 → Nat → wPS → (Int32 → wPS → Prop) → Prop) (l0A : Nat) (l1A : Nat) (l2I : Int32) (l3A : Nat) (S : wPS) (Φ : (Int32 → wPS → Prop)) : Prop :=
  if (gEntry_kind S l1A) = 0 then (if l2I = (1 : Int32) then (rX4_carriesPairings F l0A l1A l3A S fun v27 S28 => (v27 = 0 ∨ v27 = 1) ∧ Φ v27 S28) else (rec 0 l0A l1A l2I l3A S Φ)) else (rec 0 l0A l1A l2I l3A S Φ)
def rX4_carriesOver (F : Nat) (l0A : Nat) (l1A : Nat) (l2I : Int32) (l3A : Nat) (S : wPS) (Φ : (Int32 → wPS → Prop)) : Prop := rX4_carriesOver_s F (rX4_carriesOver_go F F) l0A l1A l2I l3A S Φ
set_option maxHeartbeats 4000000 in
set_option maxRecDepth 100000 in
theorem tX4_carriesOver_go {l : Launch} {X : wkX} {d F : Nat} {S0 : wPS} {Φ : (Int32 → wPS → Prop)} (hst : wkSta (wkXg X)) (C : wkC X cX4_carriesOver RX4 4 wvX4_carriesOver) (hR : wkRm X d 0 0) (hd : 4 ≤ d) (E : wkEnd l X cX4_carriesOver 4 (some .boolean) 0 0 (fun v' S'' => ∃ v : Int32, v' = some (.int v) ∧ Φ v S'' ∧ wkWF S'' ∧ wkExt S0 S'')) : ∀ k' : Nat, (∀ (l0A : Nat) (l1A : Nat) (l2I : Int32) (l3A : Nat) (S : wPS), wkWF S → wkExt S0 S → wkIs S l0A 4 → wkIs S l1A 3 → wkIs S l3A 3 → rX4_carriesOver_go F k' 0 l0A l1A l2I l3A S Φ → wkGo l X 4 0 0 19 S [some (.ref l0A), some (.ref l1A), some (.int l2I), some (.ref l3A)] []) := by
  intro k'
  induction k' with
  | zero => exact fun l0A l1A l2I l3A S hW hE hl0A hl1A hl3A h => h.elim
  | succ k' ih =>
    · intro l0A l1A l2I l3A S hW hE hl0A hl1A hl3A h
      have h : rX4_carriesOver_b0 F (rX4_carriesOver_go F k') l0A l1A l2I l3A S Φ := by
        rw [rX4_carriesOver_go, if_pos (rfl : (0 : Nat) = 0)] at h
        exact h
      unfold rX4_carriesOver_b0 at h
      refine wk_aload_n C dX4_carriesOver_19 rfl rfl ?_
      refine wk_get C (v := .int (gEntry_kind S l1A)) huX4_carriesOver_3 hl1A.1 (fun cy => wAt_3 cy _ hl1A.2) rfl 0 (by decide) (List.mem_of_getElem? (i := 1) rfl) rfl rfl dX4_carriesOver_20 ?_
      refine wk_iconst C (v := 1) dX4_carriesOver_23 (by decide) ?_
      refine wk_icmp_ne C (tgt := 39) dX4_carriesOver_24 (by decide) (fun c1 => ?_) (fun c1 => ?_)
      · rw [if_neg c1] at h
        refine wk_aload_n C dX4_carriesOver_39 rfl rfl ?_
        refine wk_get C (v := .int (gEntry_kind S l1A)) huX4_carriesOver_3 hl1A.1 (fun cy => wAt_3 cy _ hl1A.2) rfl 0 (by decide) (List.mem_of_getElem? (i := 1) rfl) rfl rfl dX4_carriesOver_40 ?_
        refine wk_if_ne C (tgt := 58) dX4_carriesOver_43 (by decide) (fun c2 => ?_) (fun c2 => ?_)
        · rw [if_neg c2] at h
          refine wk_iconst C (v := 0) dX4_carriesOver_58 (by decide) ?_
          exact E _ _ _ _ _ _ (Nat.le_refl 0) (Nat.le_refl 0) dX4_carriesOver_59 rfl ⟨(0 : Int32), rfl, h, hW, hE⟩
        · rw [if_pos c2] at h
          refine wk_iload_n C dX4_carriesOver_46 rfl rfl ?_
          refine wk_iconst C (v := 4) dX4_carriesOver_47 (by decide) ?_
          refine wk_icmp_ne C (tgt := 58) dX4_carriesOver_48 (by decide) (fun c3 => ?_) (fun c3 => ?_)
          · rw [if_neg c3] at h
            refine wk_iconst C (v := 0) dX4_carriesOver_58 (by decide) ?_
            exact E _ _ _ _ _ _ (Nat.le_refl 0) (Nat.le_refl 0) dX4_carriesOver_59 rfl ⟨(0 : Int32), rfl, h, hW, hE⟩
          · rw [if_pos c3] at h
            refine wk_aload_n C dX4_carriesOver_51 rfl rfl ?_
            refine wk_aload_n C dX4_carriesOver_52 rfl rfl ?_
            refine wk_aload_n C dX4_carriesOver_53 rfl rfl ?_
            refine wk_callV C hR (As := [.ref l1A, .ref l3A]) (cnt := 2) (tX4_carriesEdges (l := l) hst hW hl0A hl1A hl3A h) rfl (wkGoodV (List.mem_of_getElem? (i := 2) rfl) (List.mem_of_getElem? (i := 3) rfl) (List.mem_of_getElem? (i := 4) rfl) (List.mem_of_getElem? (i := 5) rfl) hbX4_carriesOver_X4_carriesEdges gdX4_carriesEdges) (Nat.le_trans (by decide : 2 + 1 ≤ 4) hd) (by decide) hl0A.1 (fun cy => wAt_4 cy _ hl0A.2) rfl ⟨by decide, by decide, by decide +kernel⟩ rfl rfl (Nat.le_of_ble_eq_true rfl) (Nat.le_refl 0) (Nat.le_refl 0) dX4_carriesOver_54 (fun v' S5 hp => ?_)
            obtain ⟨v4, rfl, h, hWS5, hXS5⟩ := hp
            obtain ⟨b9, h⟩ := h
            exact E _ _ _ _ _ _ (Nat.le_refl 0) (Nat.le_refl 0) dX4_carriesOver_57 (wkNarZ b9) ⟨v4, rfl, h, hWS5, (wkExt.tr hE hXS5)⟩
      · rw [if_pos c1] at h
        refine wk_iload_n C dX4_carriesOver_27 rfl rfl ?_
        refine wk_iconst C (v := 3) dX4_carriesOver_28 (by decide) ?_
        refine wk_icmp_ne C (tgt := 39) dX4_carriesOver_29 (by decide) (fun c10 => ?_) (fun c10 => ?_)
        · rw [if_neg c10] at h
          refine wk_aload_n C dX4_carriesOver_39 rfl rfl ?_
          refine wk_get C (v := .int (gEntry_kind S l1A)) huX4_carriesOver_3 hl1A.1 (fun cy => wAt_3 cy _ hl1A.2) rfl 0 (by decide) (List.mem_of_getElem? (i := 1) rfl) rfl rfl dX4_carriesOver_40 ?_
          refine wk_if_ne C (tgt := 58) dX4_carriesOver_43 (by decide) (fun c11 => ?_) (fun c11 => ?_)
          · rw [if_neg c11] at h
            refine wk_iconst C (v := 0) dX4_carriesOver_58 (by decide) ?_
            exact E _ _ _ _ _ _ (Nat.le_refl 0) (Nat.le_refl 0) dX4_carriesOver_59 rfl ⟨(0 : Int32), rfl, h, hW, hE⟩
          · rw [if_pos c11] at h
            refine wk_iload_n C dX4_carriesOver_46 rfl rfl ?_
            refine wk_iconst C (v := 4) dX4_carriesOver_47 (by decide) ?_
            refine wk_icmp_ne C (tgt := 58) dX4_carriesOver_48 (by decide) (fun c12 => ?_) (fun c12 => ?_)
            · rw [if_neg c12] at h
              refine wk_iconst C (v := 0) dX4_carriesOver_58 (by decide) ?_
              exact E _ _ _ _ _ _ (Nat.le_refl 0) (Nat.le_refl 0) dX4_carriesOver_59 rfl ⟨(0 : Int32), rfl, h, hW, hE⟩
            · rw [if_pos c12] at h
              refine wk_aload_n C dX4_carriesOver_51 rfl rfl ?_
              refine wk_aload_n C dX4_carriesOver_52 rfl rfl ?_
              refine wk_aload_n C dX4_carriesOver_53 rfl rfl ?_
              refine wk_callV C hR (As := [.ref l1A, .ref l3A]) (cnt := 2) (tX4_carriesEdges (l := l) hst hW hl0A hl1A hl3A h) rfl (wkGoodV (List.mem_of_getElem? (i := 2) rfl) (List.mem_of_getElem? (i := 3) rfl) (List.mem_of_getElem? (i := 4) rfl) (List.mem_of_getElem? (i := 5) rfl) hbX4_carriesOver_X4_carriesEdges gdX4_carriesEdges) (Nat.le_trans (by decide : 2 + 1 ≤ 4) hd) (by decide) hl0A.1 (fun cy => wAt_4 cy _ hl0A.2) rfl ⟨by decide, by decide, by decide +kernel⟩ rfl rfl (Nat.le_of_ble_eq_true rfl) (Nat.le_refl 0) (Nat.le_refl 0) dX4_carriesOver_54 (fun v' S14 hp => ?_)
              obtain ⟨v13, rfl, h, hWS14, hXS14⟩ := hp
              obtain ⟨b18, h⟩ := h
              exact E _ _ _ _ _ _ (Nat.le_refl 0) (Nat.le_refl 0) dX4_carriesOver_57 (wkNarZ b18) ⟨v13, rfl, h, hWS14, (wkExt.tr hE hXS14)⟩
        · rw [if_pos c10] at h
          refine wk_aload_n C dX4_carriesOver_32 rfl rfl ?_
          refine wk_aload_n C dX4_carriesOver_33 rfl rfl ?_
          refine wk_aload_n C dX4_carriesOver_34 rfl rfl ?_
          refine wk_callV C hR (As := [.ref l1A, .ref l3A]) (cnt := 2) (tX4_carriesFlows (l := l) hst hW hl0A hl1A hl3A h) rfl (wkGoodV (List.mem_of_getElem? (i := 6) rfl) (List.mem_of_getElem? (i := 7) rfl) (List.mem_of_getElem? (i := 8) rfl) (List.mem_of_getElem? (i := 5) rfl) hbX4_carriesOver_X4_carriesFlows gdX4_carriesFlows) (Nat.le_trans (by decide : 2 + 1 ≤ 4) hd) (by decide) hl0A.1 (fun cy => wAt_4 cy _ hl0A.2) rfl ⟨by decide, by decide, by decide +kernel⟩ rfl rfl (Nat.le_of_ble_eq_true rfl) (Nat.le_refl 0) (Nat.le_refl 0) dX4_carriesOver_35 (fun v' S20 hp => ?_)
          obtain ⟨v19, rfl, h, hWS20, hXS20⟩ := hp
          obtain ⟨b24, h⟩ := h
          exact E _ _ _ _ _ _ (Nat.le_refl 0) (Nat.le_refl 0) dX4_carriesOver_38 (wkNarZ b24) ⟨v19, rfl, h, hWS20, (wkExt.tr hE hXS20)⟩
set_option maxHeartbeats 4000000 in
set_option maxRecDepth 100000 in
theorem tX4_carriesOver {l : Launch} {g : wkG} {F : Nat}  {S : wPS} {l0A : Nat} {l1A : Nat} {l2I : Int32} {l3A : Nat} {Φ : (Int32 → wPS → Prop)} (hst : wkSta g) (hW : wkWF S) (hl0A : wkIs S l0A 4) (hl1A : wkIs S l1A 3) (hl3A : wkIs S l3A 3) (h : rX4_carriesOver F l0A l1A l2I l3A S Φ) : wkMet l g yX4_carriesOver wvX4_carriesOver 4 0 0 [.ref l0A, .ref l1A, .int l2I, .ref l3A] S (fun v' S'' => ∃ v : Int32, v' = some (.int v) ∧ Φ v S'' ∧ wkWF S'' ∧ wkExt S S'') := by
  refine wkMet_of (ret := (some .boolean)) (by decide) rfl (Nat.le_of_ble_eq_true rfl) (fun X hg C hR E => ?_)
  subst hg
  have hE : wkExt S S := wkExt.rf
  have hd : 4 ≤ 4 := Nat.le_refl _
  show wkGo l X 4 0 0 0 S [some (.ref l0A), some (.ref l1A), some (.int l2I), some (.ref l3A)] []
  have ih := tX4_carriesOver_go (F := F) hst C hR hd E F
  have h : rX4_carriesOver_s F (rX4_carriesOver_go F F) l0A l1A l2I l3A S Φ := h
  unfold rX4_carriesOver_s at h
  refine wk_aload_n C dX4_carriesOver_0 rfl rfl ?_
  refine wk_get C (v := .int (gEntry_kind S l1A)) huX4_carriesOver_3 hl1A.1 (fun cy => wAt_3 cy _ hl1A.2) rfl 0 (by decide) (List.mem_of_getElem? (i := 1) rfl) rfl rfl dX4_carriesOver_1 ?_
  refine wk_if_ne C (tgt := 19) dX4_carriesOver_4 (by decide) (fun c25 => ?_) (fun c25 => ?_)
  · rw [if_neg c25] at h
    exact wk_forget (lv' := [some (.ref l0A), some (.ref l1A), some (.int l2I), some (.ref l3A)]) (wkLs.le ⟨rfl, rfl, rfl, rfl, trivial⟩) (ih _ _ _ _ _ hW hE hl0A hl1A hl3A h)
  · rw [if_pos c25] at h
    refine wk_iload_n C dX4_carriesOver_7 rfl rfl ?_
    refine wk_iconst C (v := 1) dX4_carriesOver_8 (by decide) ?_
    refine wk_icmp_ne C (tgt := 19) dX4_carriesOver_9 (by decide) (fun c26 => ?_) (fun c26 => ?_)
    · rw [if_neg c26] at h
      exact wk_forget (lv' := [some (.ref l0A), some (.ref l1A), some (.int l2I), some (.ref l3A)]) (wkLs.le ⟨rfl, rfl, rfl, rfl, trivial⟩) (ih _ _ _ _ _ hW hE hl0A hl1A hl3A h)
    · rw [if_pos c26] at h
      refine wk_aload_n C dX4_carriesOver_12 rfl rfl ?_
      refine wk_aload_n C dX4_carriesOver_13 rfl rfl ?_
      refine wk_aload_n C dX4_carriesOver_14 rfl rfl ?_
      refine wk_callV C hR (As := [.ref l1A, .ref l3A]) (cnt := 2) (tX4_carriesPairings (l := l) hst hW hl0A hl1A hl3A h) rfl (wkGoodV (List.mem_of_getElem? (i := 9) rfl) (List.mem_of_getElem? (i := 10) rfl) (List.mem_of_getElem? (i := 11) rfl) (List.mem_of_getElem? (i := 5) rfl) hbX4_carriesOver_X4_carriesPairings gdX4_carriesPairings) (Nat.le_trans (by decide : 3 + 1 ≤ 4) hd) (by decide) hl0A.1 (fun cy => wAt_4 cy _ hl0A.2) rfl ⟨by decide, by decide, by decide +kernel⟩ rfl rfl (Nat.le_of_ble_eq_true rfl) (Nat.le_refl 0) (Nat.le_refl 0) dX4_carriesOver_15 (fun v' S28 hp => ?_)
      obtain ⟨v27, rfl, h, hWS28, hXS28⟩ := hp
      obtain ⟨b32, h⟩ := h
      exact E _ _ _ _ _ _ (Nat.le_refl 0) (Nat.le_refl 0) dX4_carriesOver_18 (wkNarZ b32) ⟨v27, rfl, h, hWS28, (wkExt.tr hE hXS28)⟩
def wvX6_solveGames : List Cond := .code yX6_solveGames cX6_solveGames 7 none :: (([.fieldLink RX6 43 "Witnessworks$Machines" "size" "I", .fieldLink RX6 59 "Witnessworks$Entry" "row" "LWitnessworks$Row;", .fieldLink RX6 24 "Witnessworks$Machines" "owners" "[I", .methodLink RX6 63 yX9_add, .instanceMethod yX9_add, .selects RX9 yX9_add yX9_add, .initialized RX9, .methodLink RX6 120 yX6_leastWay, .instanceMethod yX6_leastWay, .selects RX6 yX6_leastWay yX6_leastWay, .initialized RX6, .methodLink RX6 105 yX6_loadNodes, .instanceMethod yX6_loadNodes, .selects RX6 yX6_loadNodes yX6_loadNodes, .methodLink RX6 108 yX6_wonByFirst, .instanceMethod yX6_wonByFirst, .selects RX6 yX6_wonByFirst yX6_wonByFirst, .methodLink RX6 37 yX3_nodeAsked, .instanceMethod yX3_nodeAsked, .selects RX3 yX3_nodeAsked yX3_nodeAsked, .initialized RX3, .static yX11_has, .initialized RX11, .methodLink RX6 115 yJ6_bitCount_0f7a4, .static yJ6_bitCount_0f7a4, .initialized RJ6, .methodLink RX6 55 yX3_tell, .instanceMethod yX3_tell, .selects RX3 yX3_tell yX3_tell] : List Cond) ++ ((wsX60 ++ (wsX30)) ++ (wvX9_add ++ (wvX6_leastWay ++ (wvX6_loadNodes ++ (wvX6_wonByFirst ++ (wvX3_nodeAsked ++ (wvX11_has ++ (wvJ6_bitCount_0f7a4 ++ (wvX3_tell))))))))))
theorem huX6_solveGames_6 : ∀ w ∈ u_ws RX6 TX6 8, w ∈ wvX6_solveGames := fun w h => List.mem_cons_of_mem _ (List.mem_append_right _ (List.mem_append_left _ (List.mem_append_left _ h)))
theorem huX6_solveGames_3 : ∀ w ∈ u_ws RX3 TX3 17, w ∈ wvX6_solveGames := fun w h => List.mem_cons_of_mem _ (List.mem_append_right _ (List.mem_append_left _ (List.mem_append_right _ h)))
theorem hbX6_solveGames_X9_add : ∀ w ∈ wvX9_add, w ∈ wvX6_solveGames := fun w h => List.mem_cons_of_mem _ (List.mem_append_right _ (List.mem_append_right _ (List.mem_append_left _ h)))
theorem hbX6_solveGames_X6_leastWay : ∀ w ∈ wvX6_leastWay, w ∈ wvX6_solveGames := fun w h => List.mem_cons_of_mem _ (List.mem_append_right _ (List.mem_append_right _ (List.mem_append_right _ (List.mem_append_left _ h))))
theorem hbX6_solveGames_X6_loadNodes : ∀ w ∈ wvX6_loadNodes, w ∈ wvX6_solveGames := fun w h => List.mem_cons_of_mem _ (List.mem_append_right _ (List.mem_append_right _ (List.mem_append_right _ (List.mem_append_right _ (List.mem_append_left _ h)))))
theorem hbX6_solveGames_X6_wonByFirst : ∀ w ∈ wvX6_wonByFirst, w ∈ wvX6_solveGames := fun w h => List.mem_cons_of_mem _ (List.mem_append_right _ (List.mem_append_right _ (List.mem_append_right _ (List.mem_append_right _ (List.mem_append_right _ (List.mem_append_left _ h))))))
theorem hbX6_solveGames_X3_nodeAsked : ∀ w ∈ wvX3_nodeAsked, w ∈ wvX6_solveGames := fun w h => List.mem_cons_of_mem _ (List.mem_append_right _ (List.mem_append_right _ (List.mem_append_right _ (List.mem_append_right _ (List.mem_append_right _ (List.mem_append_right _ (List.mem_append_left _ h)))))))
theorem hbX6_solveGames_X11_has : ∀ w ∈ wvX11_has, w ∈ wvX6_solveGames := fun w h => List.mem_cons_of_mem _ (List.mem_append_right _ (List.mem_append_right _ (List.mem_append_right _ (List.mem_append_right _ (List.mem_append_right _ (List.mem_append_right _ (List.mem_append_right _ (List.mem_append_left _ h))))))))
theorem hbX6_solveGames_J6_bitCount_0f7a4 : ∀ w ∈ wvJ6_bitCount_0f7a4, w ∈ wvX6_solveGames := fun w h => List.mem_cons_of_mem _ (List.mem_append_right _ (List.mem_append_right _ (List.mem_append_right _ (List.mem_append_right _ (List.mem_append_right _ (List.mem_append_right _ (List.mem_append_right _ (List.mem_append_right _ (List.mem_append_left _ h)))))))))
theorem hbX6_solveGames_X3_tell : ∀ w ∈ wvX3_tell, w ∈ wvX6_solveGames := fun w h => List.mem_cons_of_mem _ (List.mem_append_right _ (List.mem_append_right _ (List.mem_append_right _ (List.mem_append_right _ (List.mem_append_right _ (List.mem_append_right _ (List.mem_append_right _ (List.mem_append_right _ (List.mem_append_right _ h)))))))))
theorem gdX6_solveGames : ∀ w ∈ wvX6_solveGames, wkGd w := wkGdC rfl (wkGdA (wkGdL (by decide +kernel)) (wkGdA (wkGdA gdX6 gdX3) (wkGdA gdX9_add (wkGdA gdX6_leastWay (wkGdA gdX6_loadNodes (wkGdA gdX6_wonByFirst (wkGdA gdX3_nodeAsked (wkGdA gdX11_has (wkGdA gdJ6_bitCount_0f7a4 gdX3_tell)))))))))
def rX6_solveGames_b0 (F : Nat) (k n : Nat) (rec : Nat → Nat → Nat → Nat → Nat → Int32 → Int32 → Int32 → wPS → (Unit → wPS → Prop) → Prop) (c s : Nat) (l0A : Nat) (l1A : Nat) (l4I : Int32) (l5I : Int32) (l6I : Int32) (S : wPS) (Φ : (Unit → wPS → Prop)) : Prop :=
  if (gMachines_size S l0A) ≤ l6I then (Φ () S) else (¬ (l6I < 0 ∨ S.len (wkAd (gMachines_owners S l0A)) ≤ (l6I).toNatClampNeg) ∧ if (S.rI (wkAd (gMachines_owners S l0A)) (l6I).toNatClampNeg) = l5I then (rX6_leastWay F l0A l6I l5I l4I S fun v10 S11 => ∃ k18 n19 : Nat, c + k18 ≤ k ∧ s + n19 ≤ n ∧ rX9_add F k18 n19 (wkAd (gEntry_row S l1A)) v10 S11 fun v15 S16 => wkLt (l6I + (1 : Int32)) fun x20 => rec 0 (c + k18) (s + n19) l0A l1A l4I l5I x20 S16 Φ) else (∃ k7 n8 : Nat, c + k7 ≤ k ∧ s + n8 ≤ n ∧ rX9_add F k7 n8 (wkAd (gEntry_row S l1A)) (-1 : Int32) S fun v4 S5 => wkLt (l6I + (1 : Int32)) fun x9 => rec 0 (c + k7) (s + n8) l0A l1A l4I l5I x9 S5 Φ))
def rX6_solveGames_go (F : Nat) (k n : Nat) : Nat → Nat → Nat → Nat → Nat → Nat → Int32 → Int32 → Int32 → wPS → (Unit → wPS → Prop) → Prop
  | 0, _, _, _, _, _, _, _, _, _, _ => False
  | k' + 1, lab, c, s, l0A, l1A, l4I, l5I, l6I, S, Φ => if lab = 0 then rX6_solveGames_b0 F k n (rX6_solveGames_go F k n k') c s l0A l1A l4I l5I l6I S Φ else False
def rX6_solveGames_s (F : Nat) (k n : Nat) (rec : Nat → Nat → Nat → Nat → Nat → Int32 → Int32 → Int32 → wPS → (Unit → wPS → Prop) → Prop) (l0A : Nat) (l1A : Nat) (S : wPS) (Φ : (Unit → wPS → Prop)) : Prop :=
  rX6_loadNodes F l0A l1A S fun v21 S22 => wkLt ((((1 : Int32) <<< ((gMachines_size S22 l0A) &&& 31)) - (1 : Int32))) fun x26 => rX6_wonByFirst F 48 l0A x26 (0 : Int32) S22 fun v27 S28 => rX3_nodeAsked F l1A S28 fun v32 S33 => rX11_has F v27 v32 S33 fun v37 S38 => if v37 = 0 then (rJ6_bitCount_0f7a4 F v27 S38 fun v43 S44 => rX3_tell F l1A (0 : Int32) v43 S44 fun v48 S49 => rec 0 0 0 l0A l1A v32 (1 : Int32) (0 : Int32) S49 Φ) else (rJ6_bitCount_0f7a4 F v27 S38 fun v53 S54 => rX3_tell F l1A (1 : Int32) v53 S54 fun v58 S59 => rec 0 0 0 l0A l1A v32 (0 : Int32) (0 : Int32) S59 Φ)
def rX6_solveGames (F : Nat) (k n : Nat) (l0A : Nat) (l1A : Nat) (S : wPS) (Φ : (Unit → wPS → Prop)) : Prop := rX6_solveGames_s F k n (rX6_solveGames_go F k n F) l0A l1A S Φ
set_option maxHeartbeats 4000000 in
set_option maxRecDepth 100000 in
theorem tX6_solveGames_go {k n : Nat} {l : Launch} {X : wkX} {d F : Nat} {S0 : wPS} {Φ : (Unit → wPS → Prop)} (C : wkC X cX6_solveGames RX6 7 wvX6_solveGames) (hR : wkRm X d k n) (hd : 52 ≤ d) (E : wkEnd l X cX6_solveGames 7 none k n (fun v' S'' => ∃ v : Unit, v' = none ∧ Φ v S'' ∧ wkWF S'' ∧ wkExt S0 S'')) : ∀ k' : Nat, (∀ (c s : Nat), c ≤ k → s ≤ n → ∀ (l0A : Nat) (l1A : Nat) (l4I : Int32) (l5I : Int32) (l6I : Int32) (S : wPS), wkWF S → wkExt S0 S → wkIs S l0A 6 → wkIs S l1A 3 → rX6_solveGames_go F k n k' 0 c s l0A l1A l4I l5I l6I S Φ → wkGo l X 7 c s 64 S [some (.ref l0A), some (.ref l1A), none, none, some (.int l4I), some (.int l5I), some (.int l6I)] []) := by
  intro k'
  induction k' with
  | zero => exact fun c s hc hs l0A l1A l4I l5I l6I S hW hE hl0A hl1A h => h.elim
  | succ k' ih =>
    · intro c s hc hs l0A l1A l4I l5I l6I S hW hE hl0A hl1A h
      have h : rX6_solveGames_b0 F k n (rX6_solveGames_go F k n k') c s l0A l1A l4I l5I l6I S Φ := by
        rw [rX6_solveGames_go, if_pos (rfl : (0 : Nat) = 0)] at h
        exact h
      unfold rX6_solveGames_b0 at h
      refine wk_iload C dX6_solveGames_64 rfl ?_
      refine wk_aload_n C dX6_solveGames_66 rfl rfl ?_
      refine wk_get C (v := .int (gMachines_size S l0A)) huX6_solveGames_6 hl0A.1 (fun cy => wAt_6 cy _ hl0A.2) rfl 7 (by decide) (List.mem_of_getElem? (i := 1) rfl) rfl rfl dX6_solveGames_67 ?_
      refine wk_icmp_ge C (tgt := 112) dX6_solveGames_70 (by decide) (fun c1 => ?_) (fun c1 => ?_)
      · rw [if_pos c1] at h
        exact E _ _ _ _ _ hc hs dX6_solveGames_112 ⟨(), rfl, h, hW, hE⟩
      · rw [if_neg c1] at h
        refine wk_aload_n C dX6_solveGames_73 rfl rfl ?_
        refine wk_get C huX6_solveGames_3 hl1A.1 (fun cy => wAt_3 cy _ hl1A.2) rfl 13 (by decide) (List.mem_of_getElem? (i := 2) rfl) rfl (congrArg some (congrArg va_rf (wf_Entry_row hW hl1A).1)) dX6_solveGames_74 ?_
        refine wk_aload_n C dX6_solveGames_77 rfl rfl ?_
        refine wk_get C huX6_solveGames_6 hl0A.1 (fun cy => wAt_6 cy _ hl0A.2) rfl 4 (by decide) (List.mem_of_getElem? (i := 3) rfl) rfl (congrArg some (congrArg va_rf (wf_Machines_owners hW hl0A).1)) dX6_solveGames_78 ?_
        refine wk_iload C dX6_solveGames_81 rfl ?_
        obtain ⟨i2, h⟩ := h
        refine wk_iald C (wf_Machines_owners hW hl0A).2.1 (wf_Machines_owners hW hl0A).2.2 i2 rfl dX6_solveGames_83 ?_
        refine wk_iload C dX6_solveGames_84 rfl ?_
        refine wk_icmp_ne C (tgt := 102) dX6_solveGames_86 (by decide) (fun c3 => ?_) (fun c3 => ?_)
        · rw [if_neg c3] at h
          refine wk_iconst C (v := (-1)) dX6_solveGames_102 (by decide) ?_
          obtain ⟨k7, n8, hk7, hn8, h⟩ := h
          refine wk_callV C hR (As := [.int (-1 : Int32)]) (cnt := 1) (tX9_add (l := l) hW (wf_Entry_row hW hl1A).2 h) rfl (wkGoodV (List.mem_of_getElem? (i := 4) rfl) (List.mem_of_getElem? (i := 5) rfl) (List.mem_of_getElem? (i := 6) rfl) (List.mem_of_getElem? (i := 7) rfl) hbX6_solveGames_X9_add gdX9_add) (Nat.le_trans (by decide : 2 + 1 ≤ 52) hd) (by decide) (wf_Entry_row hW hl1A).2.1 (fun cy => wAt_9 cy _ (wf_Entry_row hW hl1A).2.2) rfl ⟨by decide, by decide, by decide +kernel⟩ rfl rfl (Nat.le_of_ble_eq_true rfl) hk7 hn8 dX6_solveGames_103 (fun v' S5 hp => ?_)
          obtain ⟨v4, rfl, h, hWS5, hXS5⟩ := hp
          obtain ⟨x9, ex9, h⟩ := wkLt_some h
          refine wk_iinc C (lv' := [some (.ref l0A), some (.ref l1A), none, none, some (.int l4I), some (.int l5I), some (.int x9)]) dX6_solveGames_106 rfl (by rw [ex9]; rfl) (by decide) rfl ?_
          refine wk_goto C (tgt := 64) dX6_solveGames_109 (by decide) ?_
          exact wk_forget (lv' := [some (.ref l0A), some (.ref l1A), none, none, some (.int l4I), some (.int l5I), some (.int x9)]) (wkLs.le ⟨rfl, rfl, rfl, rfl, rfl, trivial⟩) (ih _ _ hk7 hn8 _ _ _ _ _ _ hWS5 (wkExt.tr hE hXS5) (hXS5 _ _ hl0A) (hXS5 _ _ hl1A) h)
        · rw [if_pos c3] at h
          refine wk_aload_n C dX6_solveGames_89 rfl rfl ?_
          refine wk_iload C dX6_solveGames_90 rfl ?_
          refine wk_iload C dX6_solveGames_92 rfl ?_
          refine wk_iload C dX6_solveGames_94 rfl ?_
          refine wk_callV C hR (As := [.int l6I, .int l5I, .int l4I]) (cnt := 3) (tX6_leastWay (l := l) hW hl0A h) rfl (wkGoodV (List.mem_of_getElem? (i := 8) rfl) (List.mem_of_getElem? (i := 9) rfl) (List.mem_of_getElem? (i := 10) rfl) (List.mem_of_getElem? (i := 11) rfl) hbX6_solveGames_X6_leastWay gdX6_leastWay) (Nat.le_trans (by decide : 51 + 1 ≤ 52) hd) (by decide) hl0A.1 (fun cy => wAt_6 cy _ hl0A.2) rfl ⟨by decide, by decide, by decide +kernel⟩ rfl rfl (Nat.le_of_ble_eq_true rfl) hc hs dX6_solveGames_96 (fun v' S11 hp => ?_)
          obtain ⟨v10, rfl, h, hWS11, hXS11⟩ := hp
          refine wk_goto C (tgt := 103) dX6_solveGames_99 (by decide) ?_
          obtain ⟨k18, n19, hk18, hn19, h⟩ := h
          refine wk_callV C hR (As := [.int v10]) (cnt := 1) (tX9_add (l := l) hWS11 (hXS11 _ _ (wf_Entry_row hW hl1A).2) h) rfl (wkGoodV (List.mem_of_getElem? (i := 4) rfl) (List.mem_of_getElem? (i := 5) rfl) (List.mem_of_getElem? (i := 6) rfl) (List.mem_of_getElem? (i := 7) rfl) hbX6_solveGames_X9_add gdX9_add) (Nat.le_trans (by decide : 2 + 1 ≤ 52) hd) (by decide) (hXS11 _ _ (wf_Entry_row hW hl1A).2).1 (fun cy => wAt_9 cy _ (hXS11 _ _ (wf_Entry_row hW hl1A).2).2) rfl ⟨by decide, by decide, by decide +kernel⟩ rfl rfl (Nat.le_of_ble_eq_true rfl) hk18 hn19 dX6_solveGames_103 (fun v' S16 hp => ?_)
          obtain ⟨v15, rfl, h, hWS16, hXS16⟩ := hp
          obtain ⟨x20, ex20, h⟩ := wkLt_some h
          refine wk_iinc C (lv' := [some (.ref l0A), some (.ref l1A), none, none, some (.int l4I), some (.int l5I), some (.int x20)]) dX6_solveGames_106 rfl (by rw [ex20]; rfl) (by decide) rfl ?_
          refine wk_goto C (tgt := 64) dX6_solveGames_109 (by decide) ?_
          exact wk_forget (lv' := [some (.ref l0A), some (.ref l1A), none, none, some (.int l4I), some (.int l5I), some (.int x20)]) (wkLs.le ⟨rfl, rfl, rfl, rfl, rfl, trivial⟩) (ih _ _ hk18 hn19 _ _ _ _ _ _ hWS16 (wkExt.tr (wkExt.tr hE hXS11) hXS16) (hXS16 _ _ (hXS11 _ _ hl0A)) (hXS16 _ _ (hXS11 _ _ hl1A)) h)
set_option maxHeartbeats 4000000 in
set_option maxRecDepth 100000 in
theorem tX6_solveGames {l : Launch} {g : wkG} {F : Nat} {k n : Nat}  {S : wPS} {l0A : Nat} {l1A : Nat} {Φ : (Unit → wPS → Prop)} (hW : wkWF S) (hl0A : wkIs S l0A 6) (hl1A : wkIs S l1A 3) (h : rX6_solveGames F k n l0A l1A S Φ) : wkMet l g yX6_solveGames wvX6_solveGames 52 k n [.ref l0A, .ref l1A] S (fun v' S'' => ∃ v : Unit, v' = none ∧ Φ v S'' ∧ wkWF S'' ∧ wkExt S S'') := by
  refine wkMet_of (ret := none) (by decide) rfl (Nat.le_of_ble_eq_true rfl) (fun X hg C hR E => ?_)
  subst hg
  have hE : wkExt S S := wkExt.rf
  have hd : 52 ≤ 52 := Nat.le_refl _
  show wkGo l X 7 0 0 0 S [some (.ref l0A), some (.ref l1A), none, none, none, none, none] []
  have ih := tX6_solveGames_go (F := F) C hR hd E F
  have h : rX6_solveGames_s F k n (rX6_solveGames_go F k n F) l0A l1A S Φ := h
  unfold rX6_solveGames_s at h
  refine wk_aload_n C dX6_solveGames_0 rfl rfl ?_
  refine wk_aload_n C dX6_solveGames_1 rfl rfl ?_
  refine wk_callV C hR (As := [.ref l1A]) (cnt := 1) (tX6_loadNodes (l := l) hW hl0A hl1A h) rfl (wkGoodV (List.mem_of_getElem? (i := 12) rfl) (List.mem_of_getElem? (i := 13) rfl) (List.mem_of_getElem? (i := 14) rfl) (List.mem_of_getElem? (i := 11) rfl) hbX6_solveGames_X6_loadNodes gdX6_loadNodes) (Nat.le_trans (by decide : 1 + 1 ≤ 52) hd) (by decide) hl0A.1 (fun cy => wAt_6 cy _ hl0A.2) rfl ⟨by decide, by decide, by decide +kernel⟩ rfl rfl (Nat.le_of_ble_eq_true rfl) (Nat.zero_le _) (Nat.zero_le _) dX6_solveGames_2 (fun v' S22 hp => ?_)
  obtain ⟨v21, rfl, h, hWS22, hXS22⟩ := hp
  refine wk_iconst C (v := 1) dX6_solveGames_5 (by decide) ?_
  refine wk_aload_n C dX6_solveGames_6 rfl rfl ?_
  refine wk_get C (v := .int (gMachines_size S22 l0A)) huX6_solveGames_6 (hXS22 _ _ hl0A).1 (fun cy => wAt_6 cy _ (hXS22 _ _ hl0A).2) rfl 7 (by decide) (List.mem_of_getElem? (i := 1) rfl) rfl rfl dX6_solveGames_7 ?_
  refine wk_ishl C dX6_solveGames_10 rfl ?_
  refine wk_iconst C (v := 1) dX6_solveGames_11 (by decide) ?_
  refine wk_isub C dX6_solveGames_12 rfl ?_
  obtain ⟨x26, ex26, h⟩ := wkLt_some h
  refine wk_topi ex26 ?_
  refine wk_istore_n C (lv' := [some (.ref l0A), some (.ref l1A), some (.int x26), none, none, none, none]) dX6_solveGames_13 rfl (by decide) rfl ?_
  refine wk_aload_n C dX6_solveGames_14 rfl rfl ?_
  refine wk_iload_n C dX6_solveGames_15 rfl rfl ?_
  refine wk_iconst C (v := 0) dX6_solveGames_16 (by decide) ?_
  refine wk_callV C hR (As := [.int x26, .int (0 : Int32)]) (cnt := 2) (tX6_wonByFirst (l := l) hWS22 (hXS22 _ _ hl0A) h) rfl (wkGoodV (List.mem_of_getElem? (i := 15) rfl) (List.mem_of_getElem? (i := 16) rfl) (List.mem_of_getElem? (i := 17) rfl) (List.mem_of_getElem? (i := 11) rfl) hbX6_solveGames_X6_wonByFirst gdX6_wonByFirst) (Nat.le_trans (by decide : 50 + 1 ≤ 52) hd) (by decide) (hXS22 _ _ hl0A).1 (fun cy => wAt_6 cy _ (hXS22 _ _ hl0A).2) rfl ⟨by decide, by decide, by decide +kernel⟩ rfl rfl (Nat.le_of_ble_eq_true rfl) (Nat.zero_le _) (Nat.zero_le _) dX6_solveGames_17 (fun v' S28 hp => ?_)
  obtain ⟨v27, rfl, h, hWS28, hXS28⟩ := hp
  refine wk_istore_n C (lv' := [some (.ref l0A), some (.ref l1A), some (.int x26), some (.int v27), none, none, none]) dX6_solveGames_20 rfl (by decide) rfl ?_
  refine wk_aload_n C dX6_solveGames_21 rfl rfl ?_
  refine wk_callV C hR (As := []) (cnt := 0) (tX3_nodeAsked (l := l) hWS28 (hXS28 _ _ (hXS22 _ _ hl1A)) h) rfl (wkGoodV (List.mem_of_getElem? (i := 18) rfl) (List.mem_of_getElem? (i := 19) rfl) (List.mem_of_getElem? (i := 20) rfl) (List.mem_of_getElem? (i := 21) rfl) hbX6_solveGames_X3_nodeAsked gdX3_nodeAsked) (Nat.le_trans (by decide : 0 + 1 ≤ 52) hd) (by decide) (hXS28 _ _ (hXS22 _ _ hl1A)).1 (fun cy => wAt_3 cy _ (hXS28 _ _ (hXS22 _ _ hl1A)).2) rfl ⟨by decide, by decide, by decide +kernel⟩ rfl rfl (Nat.le_of_ble_eq_true rfl) (Nat.zero_le _) (Nat.zero_le _) dX6_solveGames_22 (fun v' S33 hp => ?_)
  obtain ⟨v32, rfl, h, hWS33, hXS33⟩ := hp
  refine wk_istore C (lv' := [some (.ref l0A), some (.ref l1A), some (.int x26), some (.int v27), some (.int v32), none, none]) dX6_solveGames_25 (by decide) rfl ?_
  refine wk_iload_n C dX6_solveGames_27 rfl rfl ?_
  refine wk_iload C dX6_solveGames_28 rfl ?_
  refine wk_callN C hR (y := yX11_has) (host := "Witnessworks") (As := [.int v27, .int v32]) (cnt := 2) (tX11_has (l := l) hWS33  h) rfl (fun w h => ⟨hbX6_solveGames_X11_has w h, gdX11_has w h⟩) (by decide +kernel) (List.mem_of_getElem? (i := 22) rfl) (List.mem_of_getElem? (i := 23) rfl) (Nat.le_trans (by decide : 0 + 1 ≤ 52) hd) (by decide) ⟨by decide, by decide, by decide +kernel⟩ rfl rfl (Nat.le_of_ble_eq_true rfl) (Nat.zero_le _) (Nat.zero_le _) dX6_solveGames_30 (fun v' S38 hp => ?_)
  obtain ⟨v37, rfl, h, hWS38, hXS38⟩ := hp
  refine wk_if_eq C (tgt := 40) dX6_solveGames_33 (by decide) (fun c42 => ?_) (fun c42 => ?_)
  · rw [if_pos c42] at h
    refine wk_iconst C (v := 1) dX6_solveGames_40 (by decide) ?_
    refine wk_istore C (lv' := [some (.ref l0A), some (.ref l1A), some (.int x26), some (.int v27), some (.int v32), some (.int (1 : Int32)), none]) dX6_solveGames_41 (by decide) rfl ?_
    refine wk_aload_n C dX6_solveGames_43 rfl rfl ?_
    refine wk_iload C dX6_solveGames_44 rfl ?_
    refine wk_if_ne C (tgt := 53) dX6_solveGames_46 (by decide) (fun _ => ?_) (fun c => False.elim (by revert c; decide))
    refine wk_iconst C (v := 0) dX6_solveGames_53 (by decide) ?_
    refine wk_iload_n C dX6_solveGames_54 rfl rfl ?_
    refine wk_callW C hR (As := [.int v27]) (cnt := 1) (tJ6_bitCount_0f7a4 (l := l) hWS38  h) rfl (wkGoodW (List.mem_of_getElem? (i := 24) rfl) (List.mem_of_getElem? (i := 25) rfl) (List.mem_of_getElem? (i := 26) rfl) hbX6_solveGames_J6_bitCount_0f7a4 gdJ6_bitCount_0f7a4) (Nat.le_trans (by decide : 0 + 1 ≤ 52) hd) (by decide) ⟨by decide, by decide, by decide +kernel⟩ rfl rfl (Nat.le_of_ble_eq_true rfl) (Nat.zero_le _) (Nat.zero_le _) dX6_solveGames_55 (fun v' S44 hp => ?_)
    obtain ⟨v43, rfl, h, hWS44, hXS44⟩ := hp
    refine wk_callV C hR (As := [.int (0 : Int32), .int v43]) (cnt := 2) (tX3_tell (l := l) hWS44 (hXS44 _ _ (hXS38 _ _ (hXS33 _ _ (hXS28 _ _ (hXS22 _ _ hl1A))))) h) rfl (wkGoodV (List.mem_of_getElem? (i := 27) rfl) (List.mem_of_getElem? (i := 28) rfl) (List.mem_of_getElem? (i := 29) rfl) (List.mem_of_getElem? (i := 21) rfl) hbX6_solveGames_X3_tell gdX3_tell) (Nat.le_trans (by decide : 0 + 1 ≤ 52) hd) (by decide) (hXS44 _ _ (hXS38 _ _ (hXS33 _ _ (hXS28 _ _ (hXS22 _ _ hl1A))))).1 (fun cy => wAt_3 cy _ (hXS44 _ _ (hXS38 _ _ (hXS33 _ _ (hXS28 _ _ (hXS22 _ _ hl1A))))).2) rfl ⟨by decide, by decide, by decide +kernel⟩ rfl rfl (Nat.le_of_ble_eq_true rfl) (Nat.zero_le _) (Nat.zero_le _) dX6_solveGames_58 (fun v' S49 hp => ?_)
    obtain ⟨v48, rfl, h, hWS49, hXS49⟩ := hp
    refine wk_iconst C (v := 0) dX6_solveGames_61 (by decide) ?_
    refine wk_istore C (lv' := [some (.ref l0A), some (.ref l1A), some (.int x26), some (.int v27), some (.int v32), some (.int (1 : Int32)), some (.int (0 : Int32))]) dX6_solveGames_62 (by decide) rfl ?_
    exact wk_forget (lv' := [some (.ref l0A), some (.ref l1A), none, none, some (.int v32), some (.int (1 : Int32)), some (.int (0 : Int32))]) (wkLs.le ⟨rfl, rfl, rfl, rfl, rfl, trivial⟩) (ih _ _ (Nat.zero_le _) (Nat.zero_le _) _ _ _ _ _ _ hWS49 (wkExt.tr (wkExt.tr (wkExt.tr (wkExt.tr (wkExt.tr (wkExt.tr hE hXS22) hXS28) hXS33) hXS38) hXS44) hXS49) (hXS49 _ _ (hXS44 _ _ (hXS38 _ _ (hXS33 _ _ (hXS28 _ _ (hXS22 _ _ hl0A)))))) (hXS49 _ _ (hXS44 _ _ (hXS38 _ _ (hXS33 _ _ (hXS28 _ _ (hXS22 _ _ hl1A)))))) h)
  · rw [if_neg c42] at h
    refine wk_iconst C (v := 0) dX6_solveGames_36 (by decide) ?_
    refine wk_goto C (tgt := 41) dX6_solveGames_37 (by decide) ?_
    refine wk_istore C (lv' := [some (.ref l0A), some (.ref l1A), some (.int x26), some (.int v27), some (.int v32), some (.int (0 : Int32)), none]) dX6_solveGames_41 (by decide) rfl ?_
    refine wk_aload_n C dX6_solveGames_43 rfl rfl ?_
    refine wk_iload C dX6_solveGames_44 rfl ?_
    refine wk_if_ne C (tgt := 53) dX6_solveGames_46 (by decide) (fun c => False.elim (by revert c; decide)) (fun _ => ?_)
    refine wk_iconst C (v := 1) dX6_solveGames_49 (by decide) ?_
    refine wk_goto C (tgt := 54) dX6_solveGames_50 (by decide) ?_
    refine wk_iload_n C dX6_solveGames_54 rfl rfl ?_
    refine wk_callW C hR (As := [.int v27]) (cnt := 1) (tJ6_bitCount_0f7a4 (l := l) hWS38  h) rfl (wkGoodW (List.mem_of_getElem? (i := 24) rfl) (List.mem_of_getElem? (i := 25) rfl) (List.mem_of_getElem? (i := 26) rfl) hbX6_solveGames_J6_bitCount_0f7a4 gdJ6_bitCount_0f7a4) (Nat.le_trans (by decide : 0 + 1 ≤ 52) hd) (by decide) ⟨by decide, by decide, by decide +kernel⟩ rfl rfl (Nat.le_of_ble_eq_true rfl) (Nat.zero_le _) (Nat.zero_le _) dX6_solveGames_55 (fun v' S54 hp => ?_)
    obtain ⟨v53, rfl, h, hWS54, hXS54⟩ := hp
    refine wk_callV C hR (As := [.int (1 : Int32), .int v53]) (cnt := 2) (tX3_tell (l := l) hWS54 (hXS54 _ _ (hXS38 _ _ (hXS33 _ _ (hXS28 _ _ (hXS22 _ _ hl1A))))) h) rfl (wkGoodV (List.mem_of_getElem? (i := 27) rfl) (List.mem_of_getElem? (i := 28) rfl) (List.mem_of_getElem? (i := 29) rfl) (List.mem_of_getElem? (i := 21) rfl) hbX6_solveGames_X3_tell gdX3_tell) (Nat.le_trans (by decide : 0 + 1 ≤ 52) hd) (by decide) (hXS54 _ _ (hXS38 _ _ (hXS33 _ _ (hXS28 _ _ (hXS22 _ _ hl1A))))).1 (fun cy => wAt_3 cy _ (hXS54 _ _ (hXS38 _ _ (hXS33 _ _ (hXS28 _ _ (hXS22 _ _ hl1A))))).2) rfl ⟨by decide, by decide, by decide +kernel⟩ rfl rfl (Nat.le_of_ble_eq_true rfl) (Nat.zero_le _) (Nat.zero_le _) dX6_solveGames_58 (fun v' S59 hp => ?_)
    obtain ⟨v58, rfl, h, hWS59, hXS59⟩ := hp
    refine wk_iconst C (v := 0) dX6_solveGames_61 (by decide) ?_
    refine wk_istore C (lv' := [some (.ref l0A), some (.ref l1A), some (.int x26), some (.int v27), some (.int v32), some (.int (0 : Int32)), some (.int (0 : Int32))]) dX6_solveGames_62 (by decide) rfl ?_
    exact wk_forget (lv' := [some (.ref l0A), some (.ref l1A), none, none, some (.int v32), some (.int (0 : Int32)), some (.int (0 : Int32))]) (wkLs.le ⟨rfl, rfl, rfl, rfl, rfl, trivial⟩) (ih _ _ (Nat.zero_le _) (Nat.zero_le _) _ _ _ _ _ _ hWS59 (wkExt.tr (wkExt.tr (wkExt.tr (wkExt.tr (wkExt.tr (wkExt.tr hE hXS22) hXS28) hXS33) hXS38) hXS54) hXS59) (hXS59 _ _ (hXS54 _ _ (hXS38 _ _ (hXS33 _ _ (hXS28 _ _ (hXS22 _ _ hl0A)))))) (hXS59 _ _ (hXS54 _ _ (hXS38 _ _ (hXS33 _ _ (hXS28 _ _ (hXS22 _ _ hl1A)))))) h)
