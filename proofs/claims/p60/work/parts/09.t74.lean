def wvX6_isWonBy : List Cond := .code yX6_isWonBy cX6_isWonBy 3 (some .boolean) :: (([.fieldLink RX6 43 "Witnessworks$Machines" "size" "I", .methodLink RX6 108 yX6_wonByFirst, .instanceMethod yX6_wonByFirst, .selects RX6 yX6_wonByFirst yX6_wonByFirst, .initialized RX6, .static yX11_has, .initialized RX11] : List Cond) ++ ((wsX60) ++ (wvX6_wonByFirst ++ (wvX11_has))))
theorem huX6_isWonBy_6 : ∀ w ∈ u_ws RX6 TX6 8, w ∈ wvX6_isWonBy := fun w h => List.mem_cons_of_mem _ (List.mem_append_right _ (List.mem_append_left _ h))
theorem hbX6_isWonBy_X6_wonByFirst : ∀ w ∈ wvX6_wonByFirst, w ∈ wvX6_isWonBy := fun w h => List.mem_cons_of_mem _ (List.mem_append_right _ (List.mem_append_right _ (List.mem_append_left _ h)))
theorem hbX6_isWonBy_X11_has : ∀ w ∈ wvX11_has, w ∈ wvX6_isWonBy := fun w h => List.mem_cons_of_mem _ (List.mem_append_right _ (List.mem_append_right _ (List.mem_append_right _ h)))
theorem gdX6_isWonBy : ∀ w ∈ wvX6_isWonBy, wkGd w := wkGdC rfl (wkGdA (wkGdL (by decide +kernel)) (wkGdA gdX6 (wkGdA gdX6_wonByFirst gdX11_has)))
def rX6_isWonBy (F : Nat) (l0A : Nat) (l1I : Int32) (l2I : Int32) (S : wPS) (Φ : (Int32 → wPS → Prop)) : Prop :=
  rX6_wonByFirst F 48 l0A (((1 : Int32) <<< ((gMachines_size S l0A) &&& 31)) - (1 : Int32)) (0 : Int32) S fun v1 S2 => rX11_has F v1 l2I S2 fun v6 S7 => if l1I = 0 then (if v6 = (1 : Int32) then (Φ (1 : Int32) S7) else (Φ (0 : Int32) S7)) else (if v6 = (0 : Int32) then (Φ (1 : Int32) S7) else (Φ (0 : Int32) S7))
set_option maxHeartbeats 4000000 in
set_option maxRecDepth 100000 in
theorem tX6_isWonBy {l : Launch} {g : wkG} {F : Nat}  {S : wPS} {l0A : Nat} {l1I : Int32} {l2I : Int32} {Φ : (Int32 → wPS → Prop)} (hW : wkWF S) (hl0A : wkIs S l0A 6) (h : rX6_isWonBy F l0A l1I l2I S Φ) : wkMet l g yX6_isWonBy wvX6_isWonBy 51 0 0 [.ref l0A, .int l1I, .int l2I] S (fun v' S'' => ∃ v : Int32, v' = some (.int v) ∧ Φ v S'' ∧ wkWF S'' ∧ wkExt S S'') := by
  refine wkMet_of (ret := (some .boolean)) (by decide) rfl (Nat.le_of_ble_eq_true rfl) (fun X hg C hR E => ?_)
  subst hg
  have hE : wkExt S S := wkExt.rf
  have hd : 51 ≤ 51 := Nat.le_refl _
  show wkGo l X 3 0 0 0 S [some (.ref l0A), some (.int l1I), some (.int l2I)] []
  unfold rX6_isWonBy at h
  refine wk_aload_n C dX6_isWonBy_0 rfl rfl ?_
  refine wk_iconst C (v := 1) dX6_isWonBy_1 (by decide) ?_
  refine wk_aload_n C dX6_isWonBy_2 rfl rfl ?_
  refine wk_get C (v := .int (gMachines_size S l0A)) huX6_isWonBy_6 hl0A.1 (fun cy => wAt_6 cy _ hl0A.2) rfl 7 (by decide) (List.mem_of_getElem? (i := 1) rfl) rfl rfl dX6_isWonBy_3 ?_
  refine wk_ishl C dX6_isWonBy_6 rfl ?_
  refine wk_iconst C (v := 1) dX6_isWonBy_7 (by decide) ?_
  refine wk_isub C dX6_isWonBy_8 rfl ?_
  refine wk_iconst C (v := 0) dX6_isWonBy_9 (by decide) ?_
  refine wk_callV C hR (As := [.int (((1 : Int32) <<< ((gMachines_size S l0A) &&& 31)) - (1 : Int32)), .int (0 : Int32)]) (cnt := 2) (tX6_wonByFirst (l := l) hW hl0A h) rfl (wkGoodV (List.mem_of_getElem? (i := 2) rfl) (List.mem_of_getElem? (i := 3) rfl) (List.mem_of_getElem? (i := 4) rfl) (List.mem_of_getElem? (i := 5) rfl) hbX6_isWonBy_X6_wonByFirst gdX6_wonByFirst) (Nat.le_trans (by decide : 50 + 1 ≤ 51) hd) (by decide) hl0A.1 (fun cy => wAt_6 cy _ hl0A.2) rfl ⟨by decide, by decide, by decide +kernel⟩ rfl rfl (Nat.le_of_ble_eq_true rfl) (Nat.le_refl 0) (Nat.le_refl 0) dX6_isWonBy_10 (fun v' S2 hp => ?_)
  obtain ⟨v1, rfl, h, hWS2, hXS2⟩ := hp
  refine wk_iload_n C dX6_isWonBy_13 rfl rfl ?_
  refine wk_callN C hR (y := yX11_has) (host := "Witnessworks") (As := [.int v1, .int l2I]) (cnt := 2) (tX11_has (l := l) hWS2  h) rfl (fun w h => ⟨hbX6_isWonBy_X11_has w h, gdX11_has w h⟩) (by decide +kernel) (List.mem_of_getElem? (i := 6) rfl) (List.mem_of_getElem? (i := 7) rfl) (Nat.le_trans (by decide : 0 + 1 ≤ 51) hd) (by decide) ⟨by decide, by decide, by decide +kernel⟩ rfl rfl (Nat.le_of_ble_eq_true rfl) (Nat.le_refl 0) (Nat.le_refl 0) dX6_isWonBy_14 (fun v' S7 hp => ?_)
  obtain ⟨v6, rfl, h, hWS7, hXS7⟩ := hp
  refine wk_iload_n C dX6_isWonBy_17 rfl rfl ?_
  refine wk_if_ne C (tgt := 25) dX6_isWonBy_18 (by decide) (fun c11 => ?_) (fun c11 => ?_)
  · rw [if_neg c11] at h
    refine wk_iconst C (v := 0) dX6_isWonBy_25 (by decide) ?_
    refine wk_icmp_ne C (tgt := 33) dX6_isWonBy_26 (by decide) (fun c12 => ?_) (fun c12 => ?_)
    · rw [if_neg c12] at h
      refine wk_iconst C (v := 0) dX6_isWonBy_33 (by decide) ?_
      exact E _ _ _ _ _ _ (Nat.le_refl 0) (Nat.le_refl 0) dX6_isWonBy_34 rfl ⟨(0 : Int32), rfl, h, hWS7, (wkExt.tr (wkExt.tr hE hXS2) hXS7)⟩
    · rw [if_pos c12] at h
      refine wk_iconst C (v := 1) dX6_isWonBy_29 (by decide) ?_
      refine wk_goto C (tgt := 34) dX6_isWonBy_30 (by decide) ?_
      exact E _ _ _ _ _ _ (Nat.le_refl 0) (Nat.le_refl 0) dX6_isWonBy_34 rfl ⟨(1 : Int32), rfl, h, hWS7, (wkExt.tr (wkExt.tr hE hXS2) hXS7)⟩
  · rw [if_pos c11] at h
    refine wk_iconst C (v := 1) dX6_isWonBy_21 (by decide) ?_
    refine wk_goto C (tgt := 26) dX6_isWonBy_22 (by decide) ?_
    refine wk_icmp_ne C (tgt := 33) dX6_isWonBy_26 (by decide) (fun c13 => ?_) (fun c13 => ?_)
    · rw [if_neg c13] at h
      refine wk_iconst C (v := 0) dX6_isWonBy_33 (by decide) ?_
      exact E _ _ _ _ _ _ (Nat.le_refl 0) (Nat.le_refl 0) dX6_isWonBy_34 rfl ⟨(0 : Int32), rfl, h, hWS7, (wkExt.tr (wkExt.tr hE hXS2) hXS7)⟩
    · rw [if_pos c13] at h
      refine wk_iconst C (v := 1) dX6_isWonBy_29 (by decide) ?_
      refine wk_goto C (tgt := 34) dX6_isWonBy_30 (by decide) ?_
      exact E _ _ _ _ _ _ (Nat.le_refl 0) (Nat.le_refl 0) dX6_isWonBy_34 rfl ⟨(1 : Int32), rfl, h, hWS7, (wkExt.tr (wkExt.tr hE hXS2) hXS7)⟩
def wvX6_judgeGame : List Cond := .code yX6_judgeGame cX6_judgeGame 6 (some .int) :: (([.fieldLink RX6 43 "Witnessworks$Machines" "size" "I", .methodLink RX6 37 yX3_nodeAsked, .instanceMethod yX3_nodeAsked, .selects RX3 yX3_nodeAsked yX3_nodeAsked, .initialized RX3, .methodLink RX6 144 yX6_isWonBy, .instanceMethod yX6_isWonBy, .selects RX6 yX6_isWonBy yX6_isWonBy, .initialized RX6, .methodLink RX6 99 yX9_at, .instanceMethod yX9_at, .selects RX9 yX9_at yX9_at, .initialized RX9, .fieldLink RX6 24 "Witnessworks$Machines" "owners" "[I", .fieldLink RX6 30 "Witnessworks$Machines" "ways" "[I", .static yX11_has, .initialized RX11, .methodLink RX6 105 yX6_loadNodes, .instanceMethod yX6_loadNodes, .selects RX6 yX6_loadNodes yX6_loadNodes, .fieldLink RX6 93 "Witnessworks$Row" "count" "I"] : List Cond) ++ ((wsX60 ++ (wsX90)) ++ (wvX3_nodeAsked ++ (wvX6_isWonBy ++ (wvX9_at ++ (wvX11_has ++ (wvX6_loadNodes)))))))
theorem huX6_judgeGame_6 : ∀ w ∈ u_ws RX6 TX6 8, w ∈ wvX6_judgeGame := fun w h => List.mem_cons_of_mem _ (List.mem_append_right _ (List.mem_append_left _ (List.mem_append_left _ h)))
theorem huX6_judgeGame_9 : ∀ w ∈ u_ws RX9 TX9 2, w ∈ wvX6_judgeGame := fun w h => List.mem_cons_of_mem _ (List.mem_append_right _ (List.mem_append_left _ (List.mem_append_right _ h)))
theorem hbX6_judgeGame_X3_nodeAsked : ∀ w ∈ wvX3_nodeAsked, w ∈ wvX6_judgeGame := fun w h => List.mem_cons_of_mem _ (List.mem_append_right _ (List.mem_append_right _ (List.mem_append_left _ h)))
theorem hbX6_judgeGame_X6_isWonBy : ∀ w ∈ wvX6_isWonBy, w ∈ wvX6_judgeGame := fun w h => List.mem_cons_of_mem _ (List.mem_append_right _ (List.mem_append_right _ (List.mem_append_right _ (List.mem_append_left _ h))))
theorem hbX6_judgeGame_X9_at : ∀ w ∈ wvX9_at, w ∈ wvX6_judgeGame := fun w h => List.mem_cons_of_mem _ (List.mem_append_right _ (List.mem_append_right _ (List.mem_append_right _ (List.mem_append_right _ (List.mem_append_left _ h)))))
theorem hbX6_judgeGame_X11_has : ∀ w ∈ wvX11_has, w ∈ wvX6_judgeGame := fun w h => List.mem_cons_of_mem _ (List.mem_append_right _ (List.mem_append_right _ (List.mem_append_right _ (List.mem_append_right _ (List.mem_append_right _ (List.mem_append_left _ h))))))
theorem hbX6_judgeGame_X6_loadNodes : ∀ w ∈ wvX6_loadNodes, w ∈ wvX6_judgeGame := fun w h => List.mem_cons_of_mem _ (List.mem_append_right _ (List.mem_append_right _ (List.mem_append_right _ (List.mem_append_right _ (List.mem_append_right _ (List.mem_append_right _ h))))))
theorem gdX6_judgeGame : ∀ w ∈ wvX6_judgeGame, wkGd w := wkGdC rfl (wkGdA (wkGdL (by decide +kernel)) (wkGdA (wkGdA gdX6 gdX9) (wkGdA gdX3_nodeAsked (wkGdA gdX6_isWonBy (wkGdA gdX9_at (wkGdA gdX11_has gdX6_loadNodes))))))
def rX6_judgeGame_b0 (F : Nat) (rec : Nat → Nat → Nat → Nat → Int32 → Int32 → wPS → (Int32 → wPS → Prop) → Prop) (l0A : Nat) (l1A : Nat) (l2A : Nat) (l3I : Int32) (l4I : Int32) (S : wPS) (Φ : (Int32 → wPS → Prop)) : Prop :=
  if (gMachines_size S l0A) ≤ l4I then (rX3_nodeAsked F l1A S fun v2 S3 => rX6_isWonBy F l0A l3I v2 S3 fun v7 S8 => if v7 = 0 then (Φ (2 : Int32) S8) else (Φ (0 : Int32) S8)) else (rX9_at F l2A l4I S fun v13 S14 => ¬ (l4I < 0 ∨ S14.len (wkAd (gMachines_owners S14 l0A)) ≤ (l4I).toNatClampNeg) ∧ if (S14.rI (wkAd (gMachines_owners S14 l0A)) (l4I).toNatClampNeg) = l3I then (if v13 < 0 then (Φ (1 : Int32) S14) else (if (gMachines_size S14 l0A) ≤ v13 then (Φ (1 : Int32) S14) else (¬ (l4I < 0 ∨ S14.len (wkAd (gMachines_ways S14 l0A)) ≤ (l4I).toNatClampNeg) ∧ rX11_has F (S14.rI (wkAd (gMachines_ways S14 l0A)) (l4I).toNatClampNeg) v13 S14 fun v23 S24 => if v23 = 0 then (Φ (1 : Int32) S24) else (¬ (l4I < 0 ∨ S24.len (wkAd (gMachines_ways S24 l0A)) ≤ (l4I).toNatClampNeg) ∧ wkLt (wuI S24 (wkAd (gMachines_ways S24 l0A)) l4I ((1 : Int32) <<< (v13 &&& 31))) fun S30 => wkLt (l4I + (1 : Int32)) fun x31 => rec 0 l0A l1A l2A l3I x31 S30 Φ)))) else (if v13 = (-1 : Int32) then (wkLt (l4I + (1 : Int32)) fun x33 => rec 0 l0A l1A l2A l3I x33 S14 Φ) else (Φ (1 : Int32) S14)))
def rX6_judgeGame_go (F : Nat) : Nat → Nat → Nat → Nat → Nat → Int32 → Int32 → wPS → (Int32 → wPS → Prop) → Prop
  | 0, _, _, _, _, _, _, _, _ => False
  | k' + 1, lab, l0A, l1A, l2A, l3I, l4I, S, Φ => if lab = 0 then rX6_judgeGame_b0 F (rX6_judgeGame_go F k') l0A l1A l2A l3I l4I S Φ else False
def rX6_judgeGame_s (F : Nat) (rec : Nat → Nat → Nat → Nat → Int32 → Int32 → wPS → (Int32 → wPS → Prop) → Prop) (l0A : Nat) (l1A : Nat) (l2A : Nat) (l3I : Int32) (S : wPS) (Φ : (Int32 → wPS → Prop)) : Prop :=
  rX6_loadNodes F l0A l1A S fun v34 S35 => if (gRow_count S35 l2A) = (gMachines_size S35 l0A) then (rec 0 l0A l1A l2A l3I (0 : Int32) S35 Φ) else (Φ (1 : Int32) S35)
def rX6_judgeGame (F : Nat) (l0A : Nat) (l1A : Nat) (l2A : Nat) (l3I : Int32) (S : wPS) (Φ : (Int32 → wPS → Prop)) : Prop := rX6_judgeGame_s F (rX6_judgeGame_go F F) l0A l1A l2A l3I S Φ
set_option maxHeartbeats 4000000 in
set_option maxRecDepth 100000 in
theorem tX6_judgeGame_go {l : Launch} {X : wkX} {d F : Nat} {S0 : wPS} {Φ : (Int32 → wPS → Prop)} (C : wkC X cX6_judgeGame RX6 6 wvX6_judgeGame) (hR : wkRm X d 0 0) (hd : 52 ≤ d) (E : wkEnd l X cX6_judgeGame 6 (some .int) 0 0 (fun v' S'' => ∃ v : Int32, v' = some (.int v) ∧ Φ v S'' ∧ wkWF S'' ∧ wkExt S0 S'')) : ∀ k' : Nat, (∀ (l0A : Nat) (l1A : Nat) (l2A : Nat) (l3I : Int32) (l4I : Int32) (S : wPS), wkWF S → wkExt S0 S → wkIs S l0A 6 → wkIs S l1A 3 → wkIs S l2A 9 → rX6_judgeGame_go F k' 0 l0A l1A l2A l3I l4I S Φ → wkGo l X 6 0 0 21 S [some (.ref l0A), some (.ref l1A), some (.ref l2A), some (.int l3I), some (.int l4I), none] []) := by
  intro k'
  induction k' with
  | zero => exact fun l0A l1A l2A l3I l4I S hW hE hl0A hl1A hl2A h => h.elim
  | succ k' ih =>
    · intro l0A l1A l2A l3I l4I S hW hE hl0A hl1A hl2A h
      have h : rX6_judgeGame_b0 F (rX6_judgeGame_go F k') l0A l1A l2A l3I l4I S Φ := by
        rw [rX6_judgeGame_go, if_pos (rfl : (0 : Nat) = 0)] at h
        exact h
      unfold rX6_judgeGame_b0 at h
      refine wk_iload C dX6_judgeGame_21 rfl ?_
      refine wk_aload_n C dX6_judgeGame_23 rfl rfl ?_
      refine wk_get C (v := .int (gMachines_size S l0A)) huX6_judgeGame_6 hl0A.1 (fun cy => wAt_6 cy _ hl0A.2) rfl 7 (by decide) (List.mem_of_getElem? (i := 1) rfl) rfl rfl dX6_judgeGame_24 ?_
      refine wk_icmp_ge C (tgt := 105) dX6_judgeGame_27 (by decide) (fun c1 => ?_) (fun c1 => ?_)
      · rw [if_pos c1] at h
        refine wk_aload_n C dX6_judgeGame_105 rfl rfl ?_
        refine wk_iload_n C dX6_judgeGame_106 rfl rfl ?_
        refine wk_aload_n C dX6_judgeGame_107 rfl rfl ?_
        refine wk_callV C hR (As := []) (cnt := 0) (tX3_nodeAsked (l := l) hW hl1A h) rfl (wkGoodV (List.mem_of_getElem? (i := 2) rfl) (List.mem_of_getElem? (i := 3) rfl) (List.mem_of_getElem? (i := 4) rfl) (List.mem_of_getElem? (i := 5) rfl) hbX6_judgeGame_X3_nodeAsked gdX3_nodeAsked) (Nat.le_trans (by decide : 0 + 1 ≤ 52) hd) (by decide) hl1A.1 (fun cy => wAt_3 cy _ hl1A.2) rfl ⟨by decide, by decide, by decide +kernel⟩ rfl rfl (Nat.le_of_ble_eq_true rfl) (Nat.le_refl 0) (Nat.le_refl 0) dX6_judgeGame_108 (fun v' S3 hp => ?_)
        obtain ⟨v2, rfl, h, hWS3, hXS3⟩ := hp
        refine wk_callV C hR (As := [.int l3I, .int v2]) (cnt := 2) (tX6_isWonBy (l := l) hWS3 (hXS3 _ _ hl0A) h) rfl (wkGoodV (List.mem_of_getElem? (i := 6) rfl) (List.mem_of_getElem? (i := 7) rfl) (List.mem_of_getElem? (i := 8) rfl) (List.mem_of_getElem? (i := 9) rfl) hbX6_judgeGame_X6_isWonBy gdX6_isWonBy) (Nat.le_trans (by decide : 51 + 1 ≤ 52) hd) (by decide) (hXS3 _ _ hl0A).1 (fun cy => wAt_6 cy _ (hXS3 _ _ hl0A).2) rfl ⟨by decide, by decide, by decide +kernel⟩ rfl rfl (Nat.le_of_ble_eq_true rfl) (Nat.le_refl 0) (Nat.le_refl 0) dX6_judgeGame_111 (fun v' S8 hp => ?_)
        obtain ⟨v7, rfl, h, hWS8, hXS8⟩ := hp
        refine wk_if_eq C (tgt := 121) dX6_judgeGame_114 (by decide) (fun c12 => ?_) (fun c12 => ?_)
        · rw [if_pos c12] at h
          refine wk_iconst C (v := 2) dX6_judgeGame_121 (by decide) ?_
          exact E _ _ _ _ _ _ (Nat.le_refl 0) (Nat.le_refl 0) dX6_judgeGame_122 ⟨(2 : Int32), rfl, h, hWS8, (wkExt.tr (wkExt.tr hE hXS3) hXS8)⟩
        · rw [if_neg c12] at h
          refine wk_iconst C (v := 0) dX6_judgeGame_117 (by decide) ?_
          refine wk_goto C (tgt := 122) dX6_judgeGame_118 (by decide) ?_
          exact E _ _ _ _ _ _ (Nat.le_refl 0) (Nat.le_refl 0) dX6_judgeGame_122 ⟨(0 : Int32), rfl, h, hWS8, (wkExt.tr (wkExt.tr hE hXS3) hXS8)⟩
      · rw [if_neg c1] at h
        refine wk_aload_n C dX6_judgeGame_30 rfl rfl ?_
        refine wk_iload C dX6_judgeGame_31 rfl ?_
        refine wk_callV C hR (As := [.int l4I]) (cnt := 1) (tX9_at (l := l) hW hl2A h) rfl (wkGoodV (List.mem_of_getElem? (i := 10) rfl) (List.mem_of_getElem? (i := 11) rfl) (List.mem_of_getElem? (i := 12) rfl) (List.mem_of_getElem? (i := 13) rfl) hbX6_judgeGame_X9_at gdX9_at) (Nat.le_trans (by decide : 0 + 1 ≤ 52) hd) (by decide) hl2A.1 (fun cy => wAt_9 cy _ hl2A.2) rfl ⟨by decide, by decide, by decide +kernel⟩ rfl rfl (Nat.le_of_ble_eq_true rfl) (Nat.le_refl 0) (Nat.le_refl 0) dX6_judgeGame_33 (fun v' S14 hp => ?_)
        obtain ⟨v13, rfl, h, hWS14, hXS14⟩ := hp
        refine wk_istore C (lv' := [some (.ref l0A), some (.ref l1A), some (.ref l2A), some (.int l3I), some (.int l4I), some (.int v13)]) dX6_judgeGame_36 (by decide) rfl ?_
        refine wk_aload_n C dX6_judgeGame_38 rfl rfl ?_
        refine wk_get C huX6_judgeGame_6 (hXS14 _ _ hl0A).1 (fun cy => wAt_6 cy _ (hXS14 _ _ hl0A).2) rfl 4 (by decide) (List.mem_of_getElem? (i := 14) rfl) rfl (congrArg some (congrArg va_rf (wf_Machines_owners hWS14 (hXS14 _ _ hl0A)).1)) dX6_judgeGame_39 ?_
        refine wk_iload C dX6_judgeGame_42 rfl ?_
        obtain ⟨i18, h⟩ := h
        refine wk_iald C (wf_Machines_owners hWS14 (hXS14 _ _ hl0A)).2.1 (wf_Machines_owners hWS14 (hXS14 _ _ hl0A)).2.2 i18 rfl dX6_judgeGame_44 ?_
        refine wk_iload_n C dX6_judgeGame_45 rfl rfl ?_
        refine wk_icmp_eq C (tgt := 57) dX6_judgeGame_46 (by decide) (fun c19 => ?_) (fun c19 => ?_)
        · rw [if_pos c19] at h
          refine wk_iload C dX6_judgeGame_57 rfl ?_
          refine wk_if_lt C (tgt := 86) dX6_judgeGame_59 (by decide) (fun c20 => ?_) (fun c20 => ?_)
          · rw [if_pos c20] at h
            refine wk_iconst C (v := 1) dX6_judgeGame_86 (by decide) ?_
            exact E _ _ _ _ _ _ (Nat.le_refl 0) (Nat.le_refl 0) dX6_judgeGame_87 ⟨(1 : Int32), rfl, h, hWS14, (wkExt.tr hE hXS14)⟩
          · rw [if_neg c20] at h
            refine wk_iload C dX6_judgeGame_62 rfl ?_
            refine wk_aload_n C dX6_judgeGame_64 rfl rfl ?_
            refine wk_get C (v := .int (gMachines_size S14 l0A)) huX6_judgeGame_6 (hXS14 _ _ hl0A).1 (fun cy => wAt_6 cy _ (hXS14 _ _ hl0A).2) rfl 7 (by decide) (List.mem_of_getElem? (i := 1) rfl) rfl rfl dX6_judgeGame_65 ?_
            refine wk_icmp_ge C (tgt := 86) dX6_judgeGame_68 (by decide) (fun c21 => ?_) (fun c21 => ?_)
            · rw [if_pos c21] at h
              refine wk_iconst C (v := 1) dX6_judgeGame_86 (by decide) ?_
              exact E _ _ _ _ _ _ (Nat.le_refl 0) (Nat.le_refl 0) dX6_judgeGame_87 ⟨(1 : Int32), rfl, h, hWS14, (wkExt.tr hE hXS14)⟩
            · rw [if_neg c21] at h
              refine wk_aload_n C dX6_judgeGame_71 rfl rfl ?_
              refine wk_get C huX6_judgeGame_6 (hXS14 _ _ hl0A).1 (fun cy => wAt_6 cy _ (hXS14 _ _ hl0A).2) rfl 6 (by decide) (List.mem_of_getElem? (i := 15) rfl) rfl (congrArg some (congrArg va_rf (wf_Machines_ways hWS14 (hXS14 _ _ hl0A)).1)) dX6_judgeGame_72 ?_
              refine wk_iload C dX6_judgeGame_75 rfl ?_
              obtain ⟨i22, h⟩ := h
              refine wk_iald C (wf_Machines_ways hWS14 (hXS14 _ _ hl0A)).2.1 (wf_Machines_ways hWS14 (hXS14 _ _ hl0A)).2.2 i22 rfl dX6_judgeGame_77 ?_
              refine wk_iload C dX6_judgeGame_78 rfl ?_
              refine wk_callN C hR (y := yX11_has) (host := "Witnessworks") (As := [.int (S14.rI (wkAd (gMachines_ways S14 l0A)) (l4I).toNatClampNeg), .int v13]) (cnt := 2) (tX11_has (l := l) hWS14  h) rfl (fun w h => ⟨hbX6_judgeGame_X11_has w h, gdX11_has w h⟩) (by decide +kernel) (List.mem_of_getElem? (i := 16) rfl) (List.mem_of_getElem? (i := 17) rfl) (Nat.le_trans (by decide : 0 + 1 ≤ 52) hd) (by decide) ⟨by decide, by decide, by decide +kernel⟩ rfl rfl (Nat.le_of_ble_eq_true rfl) (Nat.le_refl 0) (Nat.le_refl 0) dX6_judgeGame_80 (fun v' S24 hp => ?_)
              obtain ⟨v23, rfl, h, hWS24, hXS24⟩ := hp
              refine wk_if_ne C (tgt := 88) dX6_judgeGame_83 (by decide) (fun c28 => ?_) (fun c28 => ?_)
              · rw [if_neg c28] at h
                refine wk_aload_n C dX6_judgeGame_88 rfl rfl ?_
                refine wk_get C huX6_judgeGame_6 (hXS24 _ _ (hXS14 _ _ hl0A)).1 (fun cy => wAt_6 cy _ (hXS24 _ _ (hXS14 _ _ hl0A)).2) rfl 6 (by decide) (List.mem_of_getElem? (i := 15) rfl) rfl (congrArg some (congrArg va_rf (wf_Machines_ways hWS24 (hXS24 _ _ (hXS14 _ _ hl0A))).1)) dX6_judgeGame_89 ?_
                refine wk_iload C dX6_judgeGame_92 rfl ?_
                refine wk_iconst C (v := 1) dX6_judgeGame_94 (by decide) ?_
                refine wk_iload C dX6_judgeGame_95 rfl ?_
                refine wk_ishl C dX6_judgeGame_97 rfl ?_
                obtain ⟨i29, h⟩ := h
                obtain ⟨S30, eS30, h⟩ := wkLt_some h
                refine wk_iast C (wf_Machines_ways hWS24 (hXS24 _ _ (hXS14 _ _ hl0A))).2.1 (wf_Machines_ways hWS24 (hXS24 _ _ (hXS14 _ _ hl0A))).2.2 i29 eS30.symm dX6_judgeGame_98 ?_
                have hWS30 : wkWF S30 := by rw [eS30]; exact hWS24
                have hXS30 : wkExt S24 S30 := by rw [eS30]; exact wkExt.rf
                obtain ⟨x31, ex31, h⟩ := wkLt_some h
                refine wk_iinc C (lv' := [some (.ref l0A), some (.ref l1A), some (.ref l2A), some (.int l3I), some (.int x31), some (.int v13)]) dX6_judgeGame_99 rfl (by rw [ex31]; rfl) (by decide) rfl ?_
                refine wk_goto C (tgt := 21) dX6_judgeGame_102 (by decide) ?_
                exact wk_forget (lv' := [some (.ref l0A), some (.ref l1A), some (.ref l2A), some (.int l3I), some (.int x31), none]) (wkLs.le ⟨rfl, rfl, rfl, rfl, rfl, trivial⟩) (ih _ _ _ _ _ _ hWS30 (wkExt.tr (wkExt.tr (wkExt.tr hE hXS14) hXS24) hXS30) (hXS30 _ _ (hXS24 _ _ (hXS14 _ _ hl0A))) (hXS30 _ _ (hXS24 _ _ (hXS14 _ _ hl1A))) (hXS30 _ _ (hXS24 _ _ (hXS14 _ _ hl2A))) h)
              · rw [if_pos c28] at h
                refine wk_iconst C (v := 1) dX6_judgeGame_86 (by decide) ?_
                exact E _ _ _ _ _ _ (Nat.le_refl 0) (Nat.le_refl 0) dX6_judgeGame_87 ⟨(1 : Int32), rfl, h, hWS24, (wkExt.tr (wkExt.tr hE hXS14) hXS24)⟩
        · rw [if_neg c19] at h
          refine wk_iload C dX6_judgeGame_49 rfl ?_
          refine wk_iconst C (v := (-1)) dX6_judgeGame_51 (by decide) ?_
          refine wk_icmp_eq C (tgt := 99) dX6_judgeGame_52 (by decide) (fun c32 => ?_) (fun c32 => ?_)
          · rw [if_pos c32] at h
            obtain ⟨x33, ex33, h⟩ := wkLt_some h
            refine wk_iinc C (lv' := [some (.ref l0A), some (.ref l1A), some (.ref l2A), some (.int l3I), some (.int x33), some (.int v13)]) dX6_judgeGame_99 rfl (by rw [ex33]; rfl) (by decide) rfl ?_
            refine wk_goto C (tgt := 21) dX6_judgeGame_102 (by decide) ?_
            exact wk_forget (lv' := [some (.ref l0A), some (.ref l1A), some (.ref l2A), some (.int l3I), some (.int x33), none]) (wkLs.le ⟨rfl, rfl, rfl, rfl, rfl, trivial⟩) (ih _ _ _ _ _ _ hWS14 (wkExt.tr hE hXS14) (hXS14 _ _ hl0A) (hXS14 _ _ hl1A) (hXS14 _ _ hl2A) h)
          · rw [if_neg c32] at h
            refine wk_iconst C (v := 1) dX6_judgeGame_55 (by decide) ?_
            exact E _ _ _ _ _ _ (Nat.le_refl 0) (Nat.le_refl 0) dX6_judgeGame_56 ⟨(1 : Int32), rfl, h, hWS14, (wkExt.tr hE hXS14)⟩
set_option maxHeartbeats 4000000 in
set_option maxRecDepth 100000 in
theorem tX6_judgeGame {l : Launch} {g : wkG} {F : Nat}  {S : wPS} {l0A : Nat} {l1A : Nat} {l2A : Nat} {l3I : Int32} {Φ : (Int32 → wPS → Prop)} (hW : wkWF S) (hl0A : wkIs S l0A 6) (hl1A : wkIs S l1A 3) (hl2A : wkIs S l2A 9) (h : rX6_judgeGame F l0A l1A l2A l3I S Φ) : wkMet l g yX6_judgeGame wvX6_judgeGame 52 0 0 [.ref l0A, .ref l1A, .ref l2A, .int l3I] S (fun v' S'' => ∃ v : Int32, v' = some (.int v) ∧ Φ v S'' ∧ wkWF S'' ∧ wkExt S S'') := by
  refine wkMet_of (ret := (some .int)) (by decide) rfl (Nat.le_of_ble_eq_true rfl) (fun X hg C hR E => ?_)
  subst hg
  have hE : wkExt S S := wkExt.rf
  have hd : 52 ≤ 52 := Nat.le_refl _
  show wkGo l X 6 0 0 0 S [some (.ref l0A), some (.ref l1A), some (.ref l2A), some (.int l3I), none, none] []
  have ih := tX6_judgeGame_go (F := F) C hR hd E F
  have h : rX6_judgeGame_s F (rX6_judgeGame_go F F) l0A l1A l2A l3I S Φ := h
  unfold rX6_judgeGame_s at h
  refine wk_aload_n C dX6_judgeGame_0 rfl rfl ?_
  refine wk_aload_n C dX6_judgeGame_1 rfl rfl ?_
  refine wk_callV C hR (As := [.ref l1A]) (cnt := 1) (tX6_loadNodes (l := l) hW hl0A hl1A h) rfl (wkGoodV (List.mem_of_getElem? (i := 18) rfl) (List.mem_of_getElem? (i := 19) rfl) (List.mem_of_getElem? (i := 20) rfl) (List.mem_of_getElem? (i := 9) rfl) hbX6_judgeGame_X6_loadNodes gdX6_loadNodes) (Nat.le_trans (by decide : 1 + 1 ≤ 52) hd) (by decide) hl0A.1 (fun cy => wAt_6 cy _ hl0A.2) rfl ⟨by decide, by decide, by decide +kernel⟩ rfl rfl (Nat.le_of_ble_eq_true rfl) (Nat.le_refl 0) (Nat.le_refl 0) dX6_judgeGame_2 (fun v' S35 hp => ?_)
  obtain ⟨v34, rfl, h, hWS35, hXS35⟩ := hp
  refine wk_aload_n C dX6_judgeGame_5 rfl rfl ?_
  refine wk_get C (v := .int (gRow_count S35 l2A)) huX6_judgeGame_9 (hXS35 _ _ hl2A).1 (fun cy => wAt_9 cy _ (hXS35 _ _ hl2A).2) rfl 1 (by decide) (List.mem_of_getElem? (i := 21) rfl) rfl rfl dX6_judgeGame_6 ?_
  refine wk_aload_n C dX6_judgeGame_9 rfl rfl ?_
  refine wk_get C (v := .int (gMachines_size S35 l0A)) huX6_judgeGame_6 (hXS35 _ _ hl0A).1 (fun cy => wAt_6 cy _ (hXS35 _ _ hl0A).2) rfl 7 (by decide) (List.mem_of_getElem? (i := 1) rfl) rfl rfl dX6_judgeGame_10 ?_
  refine wk_icmp_eq C (tgt := 18) dX6_judgeGame_13 (by decide) (fun c39 => ?_) (fun c39 => ?_)
  · rw [if_pos c39] at h
    refine wk_iconst C (v := 0) dX6_judgeGame_18 (by decide) ?_
    refine wk_istore C (lv' := [some (.ref l0A), some (.ref l1A), some (.ref l2A), some (.int l3I), some (.int (0 : Int32)), none]) dX6_judgeGame_19 (by decide) rfl ?_
    exact wk_forget (lv' := [some (.ref l0A), some (.ref l1A), some (.ref l2A), some (.int l3I), some (.int (0 : Int32)), none]) (wkLs.le ⟨rfl, rfl, rfl, rfl, rfl, trivial⟩) (ih _ _ _ _ _ _ hWS35 (wkExt.tr hE hXS35) (hXS35 _ _ hl0A) (hXS35 _ _ hl1A) (hXS35 _ _ hl2A) h)
  · rw [if_neg c39] at h
    refine wk_iconst C (v := 1) dX6_judgeGame_16 (by decide) ?_
    exact E _ _ _ _ _ _ (Nat.le_refl 0) (Nat.le_refl 0) dX6_judgeGame_17 ⟨(1 : Int32), rfl, h, hWS35, (wkExt.tr hE hXS35)⟩
def wvX7_solvePairings : List Cond := .code yX7_solvePairings cX7_solvePairings 5 none :: (([.methodLink RX7 36 yX7_countPairs, .instanceMethod yX7_countPairs, .selects RX7 yX7_countPairs yX7_countPairs, .initialized RX7, .fieldLink RX7 40 "Witnessworks$Entry" "size" "I", .fieldLink RX7 15 "Witnessworks$Networks" "best" "[I", .fieldLink RX7 46 "Witnessworks$Entry" "boundNow" "I", .methodLink RX7 49 yX3_tell, .instanceMethod yX3_tell, .selects RX3 yX3_tell yX3_tell, .initialized RX3, .fieldLink RX7 53 "Witnessworks$Entry" "row" "LWitnessworks$Row;", .methodLink RX7 61 yX7_writeNodes, .instanceMethod yX7_writeNodes, .selects RX7 yX7_writeNodes yX7_writeNodes, .methodLink RX7 57 yX7_writePairing, .instanceMethod yX7_writePairing, .selects RX7 yX7_writePairing yX7_writePairing] : List Cond) ++ ((wsX30 ++ (wsX70)) ++ (wvX7_countPairs ++ (wvX3_tell ++ (wvX7_writeNodes ++ (wvX7_writePairing))))))
theorem huX7_solvePairings_3 : ∀ w ∈ u_ws RX3 TX3 17, w ∈ wvX7_solvePairings := fun w h => List.mem_cons_of_mem _ (List.mem_append_right _ (List.mem_append_left _ (List.mem_append_left _ h)))
theorem huX7_solvePairings_7 : ∀ w ∈ u_ws RX7 TX7 11, w ∈ wvX7_solvePairings := fun w h => List.mem_cons_of_mem _ (List.mem_append_right _ (List.mem_append_left _ (List.mem_append_right _ h)))
theorem hbX7_solvePairings_X7_countPairs : ∀ w ∈ wvX7_countPairs, w ∈ wvX7_solvePairings := fun w h => List.mem_cons_of_mem _ (List.mem_append_right _ (List.mem_append_right _ (List.mem_append_left _ h)))
theorem hbX7_solvePairings_X3_tell : ∀ w ∈ wvX3_tell, w ∈ wvX7_solvePairings := fun w h => List.mem_cons_of_mem _ (List.mem_append_right _ (List.mem_append_right _ (List.mem_append_right _ (List.mem_append_left _ h))))
theorem hbX7_solvePairings_X7_writeNodes : ∀ w ∈ wvX7_writeNodes, w ∈ wvX7_solvePairings := fun w h => List.mem_cons_of_mem _ (List.mem_append_right _ (List.mem_append_right _ (List.mem_append_right _ (List.mem_append_right _ (List.mem_append_left _ h)))))
theorem hbX7_solvePairings_X7_writePairing : ∀ w ∈ wvX7_writePairing, w ∈ wvX7_solvePairings := fun w h => List.mem_cons_of_mem _ (List.mem_append_right _ (List.mem_append_right _ (List.mem_append_right _ (List.mem_append_right _ (List.mem_append_right _ h)))))
theorem gdX7_solvePairings : ∀ w ∈ wvX7_solvePairings, wkGd w := wkGdC rfl (wkGdA (wkGdL (by decide +kernel)) (wkGdA (wkGdA gdX3 gdX7) (wkGdA gdX7_countPairs (wkGdA gdX3_tell (wkGdA gdX7_writeNodes gdX7_writePairing)))))
def rX7_solvePairings (F : Nat) (k n : Nat) (l0A : Nat) (l1A : Nat) (S : wPS) (Φ : (Unit → wPS → Prop)) : Prop :=
  rX7_countPairs F l0A l1A S fun v1 S2 => wkLt ((((1 : Int32) <<< ((gEntry_size S2 l1A) &&& 31)) - (1 : Int32))) fun x6 => ¬ (x6 < 0 ∨ S2.len (wkAd (gNetworks_best S2 l0A)) ≤ (x6).toNatClampNeg) ∧ wkLt (((gEntry_size S2 l1A) - ((2 : Int32) * (S2.rI (wkAd (gNetworks_best S2 l0A)) (x6).toNatClampNeg)))) fun x8 => if (gEntry_boundNow S2 l1A) < x8 then (rX3_tell F l1A (0 : Int32) x8 S2 fun v10 S11 => ∃ k18 n19 : Nat, 0 + k18 ≤ k ∧ 0 + n19 ≤ n ∧ rX7_writeNodes F k18 n19 l0A (gEntry_size S11 l1A) (wkAd (gEntry_row S11 l1A)) S11 fun v15 S16 => Φ () S16) else (rX3_tell F l1A (1 : Int32) x8 S2 fun v20 S21 => ∃ k28 n29 : Nat, 0 + k28 ≤ k ∧ 0 + n29 ≤ n ∧ rX7_writePairing F k28 n29 l0A (gEntry_size S21 l1A) (wkAd (gEntry_row S21 l1A)) S21 fun v25 S26 => Φ () S26)
set_option maxHeartbeats 4000000 in
set_option maxRecDepth 100000 in
theorem tX7_solvePairings {l : Launch} {g : wkG} {F : Nat} {k n : Nat}  {S : wPS} {l0A : Nat} {l1A : Nat} {Φ : (Unit → wPS → Prop)} (hW : wkWF S) (hl0A : wkIs S l0A 7) (hl1A : wkIs S l1A 3) (h : rX7_solvePairings F k n l0A l1A S Φ) : wkMet l g yX7_solvePairings wvX7_solvePairings 4 k n [.ref l0A, .ref l1A] S (fun v' S'' => ∃ v : Unit, v' = none ∧ Φ v S'' ∧ wkWF S'' ∧ wkExt S S'') := by
  refine wkMet_of (ret := none) (by decide) rfl (Nat.le_of_ble_eq_true rfl) (fun X hg C hR E => ?_)
  subst hg
  have hE : wkExt S S := wkExt.rf
  have hd : 4 ≤ 4 := Nat.le_refl _
  show wkGo l X 5 0 0 0 S [some (.ref l0A), some (.ref l1A), none, none, none] []
  unfold rX7_solvePairings at h
  refine wk_aload_n C dX7_solvePairings_0 rfl rfl ?_
  refine wk_aload_n C dX7_solvePairings_1 rfl rfl ?_
  refine wk_callV C hR (As := [.ref l1A]) (cnt := 1) (tX7_countPairs (l := l) hW hl0A hl1A h) rfl (wkGoodV (List.mem_of_getElem? (i := 1) rfl) (List.mem_of_getElem? (i := 2) rfl) (List.mem_of_getElem? (i := 3) rfl) (List.mem_of_getElem? (i := 4) rfl) hbX7_solvePairings_X7_countPairs gdX7_countPairs) (Nat.le_trans (by decide : 2 + 1 ≤ 4) hd) (by decide) hl0A.1 (fun cy => wAt_7 cy _ hl0A.2) rfl ⟨by decide, by decide, by decide +kernel⟩ rfl rfl (Nat.le_of_ble_eq_true rfl) (Nat.zero_le _) (Nat.zero_le _) dX7_solvePairings_2 (fun v' S2 hp => ?_)
  obtain ⟨v1, rfl, h, hWS2, hXS2⟩ := hp
  refine wk_iconst C (v := 1) dX7_solvePairings_5 (by decide) ?_
  refine wk_aload_n C dX7_solvePairings_6 rfl rfl ?_
  refine wk_get C (v := .int (gEntry_size S2 l1A)) huX7_solvePairings_3 (hXS2 _ _ hl1A).1 (fun cy => wAt_3 cy _ (hXS2 _ _ hl1A).2) rfl 1 (by decide) (List.mem_of_getElem? (i := 5) rfl) rfl rfl dX7_solvePairings_7 ?_
  refine wk_ishl C dX7_solvePairings_10 rfl ?_
  refine wk_iconst C (v := 1) dX7_solvePairings_11 (by decide) ?_
  refine wk_isub C dX7_solvePairings_12 rfl ?_
  obtain ⟨x6, ex6, h⟩ := wkLt_some h
  refine wk_topi ex6 ?_
  refine wk_istore_n C (lv' := [some (.ref l0A), some (.ref l1A), some (.int x6), none, none]) dX7_solvePairings_13 rfl (by decide) rfl ?_
  refine wk_aload_n C dX7_solvePairings_14 rfl rfl ?_
  refine wk_get C (v := .int (gEntry_size S2 l1A)) huX7_solvePairings_3 (hXS2 _ _ hl1A).1 (fun cy => wAt_3 cy _ (hXS2 _ _ hl1A).2) rfl 1 (by decide) (List.mem_of_getElem? (i := 5) rfl) rfl rfl dX7_solvePairings_15 ?_
  refine wk_iconst C (v := 2) dX7_solvePairings_18 (by decide) ?_
  refine wk_aload_n C dX7_solvePairings_19 rfl rfl ?_
  refine wk_get C huX7_solvePairings_7 (hXS2 _ _ hl0A).1 (fun cy => wAt_7 cy _ (hXS2 _ _ hl0A).2) rfl 1 (by decide) (List.mem_of_getElem? (i := 6) rfl) rfl (congrArg some (congrArg va_rf (wf_Networks_best hWS2 (hXS2 _ _ hl0A)).1)) dX7_solvePairings_20 ?_
  refine wk_iload_n C dX7_solvePairings_23 rfl rfl ?_
  obtain ⟨i7, h⟩ := h
  refine wk_iald C (wf_Networks_best hWS2 (hXS2 _ _ hl0A)).2.1 (wf_Networks_best hWS2 (hXS2 _ _ hl0A)).2.2 i7 rfl dX7_solvePairings_24 ?_
  refine wk_imul C dX7_solvePairings_25 rfl ?_
  refine wk_isub C dX7_solvePairings_26 rfl ?_
  obtain ⟨x8, ex8, h⟩ := wkLt_some h
  refine wk_topi ex8 ?_
  refine wk_istore_n C (lv' := [some (.ref l0A), some (.ref l1A), some (.int x6), some (.int x8), none]) dX7_solvePairings_27 rfl (by decide) rfl ?_
  refine wk_iload_n C dX7_solvePairings_28 rfl rfl ?_
  refine wk_aload_n C dX7_solvePairings_29 rfl rfl ?_
  refine wk_get C (v := .int (gEntry_boundNow S2 l1A)) huX7_solvePairings_3 (hXS2 _ _ hl1A).1 (fun cy => wAt_3 cy _ (hXS2 _ _ hl1A).2) rfl 8 (by decide) (List.mem_of_getElem? (i := 7) rfl) rfl rfl dX7_solvePairings_30 ?_
  refine wk_icmp_gt C (tgt := 40) dX7_solvePairings_33 (by decide) (fun c9 => ?_) (fun c9 => ?_)
  · rw [if_pos c9] at h
    refine wk_iconst C (v := 0) dX7_solvePairings_40 (by decide) ?_
    refine wk_istore C (lv' := [some (.ref l0A), some (.ref l1A), some (.int x6), some (.int x8), some (.int (0 : Int32))]) dX7_solvePairings_41 (by decide) rfl ?_
    refine wk_aload_n C dX7_solvePairings_43 rfl rfl ?_
    refine wk_iload C dX7_solvePairings_44 rfl ?_
    refine wk_iload_n C dX7_solvePairings_46 rfl rfl ?_
    refine wk_callV C hR (As := [.int (0 : Int32), .int x8]) (cnt := 2) (tX3_tell (l := l) hWS2 (hXS2 _ _ hl1A) h) rfl (wkGoodV (List.mem_of_getElem? (i := 8) rfl) (List.mem_of_getElem? (i := 9) rfl) (List.mem_of_getElem? (i := 10) rfl) (List.mem_of_getElem? (i := 11) rfl) hbX7_solvePairings_X3_tell gdX3_tell) (Nat.le_trans (by decide : 0 + 1 ≤ 4) hd) (by decide) (hXS2 _ _ hl1A).1 (fun cy => wAt_3 cy _ (hXS2 _ _ hl1A).2) rfl ⟨by decide, by decide, by decide +kernel⟩ rfl rfl (Nat.le_of_ble_eq_true rfl) (Nat.zero_le _) (Nat.zero_le _) dX7_solvePairings_47 (fun v' S11 hp => ?_)
    obtain ⟨v10, rfl, h, hWS11, hXS11⟩ := hp
    refine wk_iload C dX7_solvePairings_50 rfl ?_
    refine wk_if_eq C (tgt := 70) dX7_solvePairings_52 (by decide) (fun _ => ?_) (fun c => False.elim (by revert c; decide))
    refine wk_aload_n C dX7_solvePairings_70 rfl rfl ?_
    refine wk_aload_n C dX7_solvePairings_71 rfl rfl ?_
    refine wk_get C (v := .int (gEntry_size S11 l1A)) huX7_solvePairings_3 (hXS11 _ _ (hXS2 _ _ hl1A)).1 (fun cy => wAt_3 cy _ (hXS11 _ _ (hXS2 _ _ hl1A)).2) rfl 1 (by decide) (List.mem_of_getElem? (i := 5) rfl) rfl rfl dX7_solvePairings_72 ?_
    refine wk_aload_n C dX7_solvePairings_75 rfl rfl ?_
    refine wk_get C huX7_solvePairings_3 (hXS11 _ _ (hXS2 _ _ hl1A)).1 (fun cy => wAt_3 cy _ (hXS11 _ _ (hXS2 _ _ hl1A)).2) rfl 13 (by decide) (List.mem_of_getElem? (i := 12) rfl) rfl (congrArg some (congrArg va_rf (wf_Entry_row hWS11 (hXS11 _ _ (hXS2 _ _ hl1A))).1)) dX7_solvePairings_76 ?_
    obtain ⟨k18, n19, hk18, hn19, h⟩ := h
    refine wk_callV C hR (As := [.int (gEntry_size S11 l1A), .ref (wkAd (gEntry_row S11 l1A))]) (cnt := 2) (tX7_writeNodes (l := l) hWS11 (hXS11 _ _ (hXS2 _ _ hl0A)) (wf_Entry_row hWS11 (hXS11 _ _ (hXS2 _ _ hl1A))).2 h) rfl (wkGoodV (List.mem_of_getElem? (i := 13) rfl) (List.mem_of_getElem? (i := 14) rfl) (List.mem_of_getElem? (i := 15) rfl) (List.mem_of_getElem? (i := 4) rfl) hbX7_solvePairings_X7_writeNodes gdX7_writeNodes) (Nat.le_trans (by decide : 3 + 1 ≤ 4) hd) (by decide) (hXS11 _ _ (hXS2 _ _ hl0A)).1 (fun cy => wAt_7 cy _ (hXS11 _ _ (hXS2 _ _ hl0A)).2) rfl ⟨by decide, by decide, by decide +kernel⟩ rfl rfl (Nat.le_of_ble_eq_true rfl) hk18 hn19 dX7_solvePairings_79 (fun v' S16 hp => ?_)
    obtain ⟨v15, rfl, h, hWS16, hXS16⟩ := hp
    exact E _ _ _ _ _ hk18 hn19 dX7_solvePairings_82 ⟨(), rfl, h, hWS16, (wkExt.tr (wkExt.tr (wkExt.tr hE hXS2) hXS11) hXS16)⟩
  · rw [if_neg c9] at h
    refine wk_iconst C (v := 1) dX7_solvePairings_36 (by decide) ?_
    refine wk_goto C (tgt := 41) dX7_solvePairings_37 (by decide) ?_
    refine wk_istore C (lv' := [some (.ref l0A), some (.ref l1A), some (.int x6), some (.int x8), some (.int (1 : Int32))]) dX7_solvePairings_41 (by decide) rfl ?_
    refine wk_aload_n C dX7_solvePairings_43 rfl rfl ?_
    refine wk_iload C dX7_solvePairings_44 rfl ?_
    refine wk_iload_n C dX7_solvePairings_46 rfl rfl ?_
    refine wk_callV C hR (As := [.int (1 : Int32), .int x8]) (cnt := 2) (tX3_tell (l := l) hWS2 (hXS2 _ _ hl1A) h) rfl (wkGoodV (List.mem_of_getElem? (i := 8) rfl) (List.mem_of_getElem? (i := 9) rfl) (List.mem_of_getElem? (i := 10) rfl) (List.mem_of_getElem? (i := 11) rfl) hbX7_solvePairings_X3_tell gdX3_tell) (Nat.le_trans (by decide : 0 + 1 ≤ 4) hd) (by decide) (hXS2 _ _ hl1A).1 (fun cy => wAt_3 cy _ (hXS2 _ _ hl1A).2) rfl ⟨by decide, by decide, by decide +kernel⟩ rfl rfl (Nat.le_of_ble_eq_true rfl) (Nat.zero_le _) (Nat.zero_le _) dX7_solvePairings_47 (fun v' S21 hp => ?_)
    obtain ⟨v20, rfl, h, hWS21, hXS21⟩ := hp
    refine wk_iload C dX7_solvePairings_50 rfl ?_
    refine wk_if_eq C (tgt := 70) dX7_solvePairings_52 (by decide) (fun c => False.elim (by revert c; decide)) (fun _ => ?_)
    refine wk_aload_n C dX7_solvePairings_55 rfl rfl ?_
    refine wk_aload_n C dX7_solvePairings_56 rfl rfl ?_
    refine wk_get C (v := .int (gEntry_size S21 l1A)) huX7_solvePairings_3 (hXS21 _ _ (hXS2 _ _ hl1A)).1 (fun cy => wAt_3 cy _ (hXS21 _ _ (hXS2 _ _ hl1A)).2) rfl 1 (by decide) (List.mem_of_getElem? (i := 5) rfl) rfl rfl dX7_solvePairings_57 ?_
    refine wk_aload_n C dX7_solvePairings_60 rfl rfl ?_
    refine wk_get C huX7_solvePairings_3 (hXS21 _ _ (hXS2 _ _ hl1A)).1 (fun cy => wAt_3 cy _ (hXS21 _ _ (hXS2 _ _ hl1A)).2) rfl 13 (by decide) (List.mem_of_getElem? (i := 12) rfl) rfl (congrArg some (congrArg va_rf (wf_Entry_row hWS21 (hXS21 _ _ (hXS2 _ _ hl1A))).1)) dX7_solvePairings_61 ?_
    obtain ⟨k28, n29, hk28, hn29, h⟩ := h
    refine wk_callV C hR (As := [.int (gEntry_size S21 l1A), .ref (wkAd (gEntry_row S21 l1A))]) (cnt := 2) (tX7_writePairing (l := l) hWS21 (hXS21 _ _ (hXS2 _ _ hl0A)) (wf_Entry_row hWS21 (hXS21 _ _ (hXS2 _ _ hl1A))).2 h) rfl (wkGoodV (List.mem_of_getElem? (i := 16) rfl) (List.mem_of_getElem? (i := 17) rfl) (List.mem_of_getElem? (i := 18) rfl) (List.mem_of_getElem? (i := 4) rfl) hbX7_solvePairings_X7_writePairing gdX7_writePairing) (Nat.le_trans (by decide : 3 + 1 ≤ 4) hd) (by decide) (hXS21 _ _ (hXS2 _ _ hl0A)).1 (fun cy => wAt_7 cy _ (hXS21 _ _ (hXS2 _ _ hl0A)).2) rfl ⟨by decide, by decide, by decide +kernel⟩ rfl rfl (Nat.le_of_ble_eq_true rfl) hk28 hn29 dX7_solvePairings_64 (fun v' S26 hp => ?_)
    obtain ⟨v25, rfl, h, hWS26, hXS26⟩ := hp
    refine wk_goto C (tgt := 82) dX7_solvePairings_67 (by decide) ?_
    exact E _ _ _ _ _ hk28 hn29 dX7_solvePairings_82 ⟨(), rfl, h, hWS26, (wkExt.tr (wkExt.tr (wkExt.tr hE hXS2) hXS21) hXS26)⟩
