def wvX4_isItemOf : List Cond := .code yX4_isItemOf cX4_isItemOf 5 (some .boolean) :: (([.fieldLink RX4 191 "Witnessworks$Entry" "size" "I", .fieldLink RX4 75 "Witnessworks$Entry" "kind" "I", .methodLink RX4 194 yX4_areUnlikeNodes, .static yX4_areUnlikeNodes, .initialized RX4, .methodLink RX4 198 yX4_isWithin, .static yX4_isWithin, .methodLink RX4 202 yX4_areWithin, .static yX4_areWithin, .methodLink RX4 206 yX4_areUnlikePoints, .static yX4_areUnlikePoints, .methodLink RX4 209 yX4_areWords, .static yX4_areWords, .methodLink RX4 212 yX4_isGameItem, .static yX4_isGameItem] : List Cond) ++ ((wsX30) ++ (wvX4_areUnlikeNodes ++ (wvX4_isWithin ++ (wvX4_areWithin ++ (wvX4_areUnlikePoints ++ (wvX4_areWords ++ (wvX4_isGameItem))))))))
theorem huX4_isItemOf_3 : ∀ w ∈ u_ws RX3 TX3 17, w ∈ wvX4_isItemOf := fun w h => List.mem_cons_of_mem _ (List.mem_append_right _ (List.mem_append_left _ h))
theorem hbX4_isItemOf_X4_areUnlikeNodes : ∀ w ∈ wvX4_areUnlikeNodes, w ∈ wvX4_isItemOf := fun w h => List.mem_cons_of_mem _ (List.mem_append_right _ (List.mem_append_right _ (List.mem_append_left _ h)))
theorem hbX4_isItemOf_X4_isWithin : ∀ w ∈ wvX4_isWithin, w ∈ wvX4_isItemOf := fun w h => List.mem_cons_of_mem _ (List.mem_append_right _ (List.mem_append_right _ (List.mem_append_right _ (List.mem_append_left _ h))))
theorem hbX4_isItemOf_X4_areWithin : ∀ w ∈ wvX4_areWithin, w ∈ wvX4_isItemOf := fun w h => List.mem_cons_of_mem _ (List.mem_append_right _ (List.mem_append_right _ (List.mem_append_right _ (List.mem_append_right _ (List.mem_append_left _ h)))))
theorem hbX4_isItemOf_X4_areUnlikePoints : ∀ w ∈ wvX4_areUnlikePoints, w ∈ wvX4_isItemOf := fun w h => List.mem_cons_of_mem _ (List.mem_append_right _ (List.mem_append_right _ (List.mem_append_right _ (List.mem_append_right _ (List.mem_append_right _ (List.mem_append_left _ h))))))
theorem hbX4_isItemOf_X4_areWords : ∀ w ∈ wvX4_areWords, w ∈ wvX4_isItemOf := fun w h => List.mem_cons_of_mem _ (List.mem_append_right _ (List.mem_append_right _ (List.mem_append_right _ (List.mem_append_right _ (List.mem_append_right _ (List.mem_append_right _ (List.mem_append_left _ h)))))))
theorem hbX4_isItemOf_X4_isGameItem : ∀ w ∈ wvX4_isGameItem, w ∈ wvX4_isItemOf := fun w h => List.mem_cons_of_mem _ (List.mem_append_right _ (List.mem_append_right _ (List.mem_append_right _ (List.mem_append_right _ (List.mem_append_right _ (List.mem_append_right _ (List.mem_append_right _ h)))))))
theorem gdX4_isItemOf : ∀ w ∈ wvX4_isItemOf, wkGd w := wkGdC rfl (wkGdA (wkGdL (by decide +kernel)) (wkGdA gdX3 (wkGdA gdX4_areUnlikeNodes (wkGdA gdX4_isWithin (wkGdA gdX4_areWithin (wkGdA gdX4_areUnlikePoints (wkGdA gdX4_areWords gdX4_isGameItem)))))))
def rX4_isItemOf (F : Nat) (l0A : Nat) (l1A : Nat) (l2I : Int32) (l3A : Nat) (S : wPS) (Φ : (Int32 → wPS → Prop)) : Prop :=
  wkLt (((gEntry_size S l1A) - (1 : Int32))) fun x1 => if (gEntry_kind S l1A) = 0 then (rX4_areUnlikeNodes F l3A x1 S fun v4 S5 => (v4 = 0 ∨ v4 = 1) ∧ Φ v4 S5) else if (gEntry_kind S l1A) = 1 then (rX4_areUnlikeNodes F l3A x1 S fun v11 S12 => if v11 = 0 then (Φ (0 : Int32) S12) else (¬ ((2 : Int32) < 0 ∨ S12.len l3A ≤ ((2 : Int32)).toNatClampNeg) ∧ rX4_isWithin F (S12.rI l3A ((2 : Int32)).toNatClampNeg) (0 : Int32) (6 : Int32) S12 fun v18 S19 => if v18 = 0 then (Φ (0 : Int32) S19) else (Φ (1 : Int32) S19))) else if (gEntry_kind S l1A) = 2 then (rX4_areUnlikeNodes F l3A x1 S fun v25 S26 => (v25 = 0 ∨ v25 = 1) ∧ Φ v25 S26) else if (gEntry_kind S l1A) = 3 then (rX4_areWithin F l3A (gEntry_size S l1A) (9 : Int32) S fun v32 S33 => if v32 = 0 then (Φ (0 : Int32) S33) else (¬ ((4 : Int32) < 0 ∨ S33.len l3A ≤ ((4 : Int32)).toNatClampNeg) ∧ rX4_isWithin F (S33.rI l3A ((4 : Int32)).toNatClampNeg) (-60 : Int32) (60 : Int32) S33 fun v39 S40 => if v39 = 0 then (Φ (0 : Int32) S40) else (Φ (1 : Int32) S40))) else if (gEntry_kind S l1A) = 4 then (rX4_areWithin F l3A (3 : Int32) (gEntry_size S l1A) S fun v46 S47 => if v46 = 0 then (Φ (0 : Int32) S47) else (¬ ((0 : Int32) < 0 ∨ S47.len l3A ≤ ((0 : Int32)).toNatClampNeg) ∧ if (S47.rI l3A ((0 : Int32)).toNatClampNeg) = 0 then (¬ ((1 : Int32) < 0 ∨ S47.len l3A ≤ ((1 : Int32)).toNatClampNeg) ∧ if (S47.rI l3A ((1 : Int32)).toNatClampNeg) = 0 then (¬ ((2 : Int32) < 0 ∨ S47.len l3A ≤ ((2 : Int32)).toNatClampNeg) ∧ if (S47.rI l3A ((2 : Int32)).toNatClampNeg) = 0 then (Φ (0 : Int32) S47) else (Φ (1 : Int32) S47)) else (Φ (1 : Int32) S47)) else (Φ (1 : Int32) S47))) else if (gEntry_kind S l1A) = 5 then (rX4_areWithin F l3A (gEntry_size S l1A) (6 : Int32) S fun v59 S60 => if v59 = 0 then (Φ (0 : Int32) S60) else (¬ ((4 : Int32) < 0 ∨ S60.len l3A ≤ ((4 : Int32)).toNatClampNeg) ∧ rX4_isWithin F (S60.rI l3A ((4 : Int32)).toNatClampNeg) (-20 : Int32) (20 : Int32) S60 fun v66 S67 => if v66 = 0 then (Φ (0 : Int32) S67) else (Φ (1 : Int32) S67))) else if (gEntry_kind S l1A) = 6 then (Φ (1 : Int32) S) else if (gEntry_kind S l1A) = 7 then (rX4_areWithin F l3A (4 : Int32) (7 : Int32) S fun v74 S75 => (v74 = 0 ∨ v74 = 1) ∧ Φ v74 S75) else if (gEntry_kind S l1A) = 8 then (rX4_areUnlikePoints F l3A x1 S fun v81 S82 => (v81 = 0 ∨ v81 = 1) ∧ Φ v81 S82) else if (gEntry_kind S l1A) = 9 then (if l2I = 0 then (rX4_areWords F l3A (255 : Int32) S fun v95 S96 => (v95 = 0 ∨ v95 = 1) ∧ Φ v95 S96) else (rX4_areWords F l3A (31 : Int32) S fun v89 S90 => (v89 = 0 ∨ v89 = 1) ∧ Φ v89 S90)) else if (gEntry_kind S l1A) = 10 then (¬ ((0 : Int32) < 0 ∨ S.len l3A ≤ ((0 : Int32)).toNatClampNeg) ∧ rX4_isWithin F (S.rI l3A ((0 : Int32)).toNatClampNeg) (0 : Int32) x1 S fun v103 S104 => if v103 = 0 then (Φ (0 : Int32) S104) else (¬ ((1 : Int32) < 0 ∨ S104.len l3A ≤ ((1 : Int32)).toNatClampNeg) ∧ rX4_isWithin F (S104.rI l3A ((1 : Int32)).toNatClampNeg) (0 : Int32) x1 S104 fun v110 S111 => if v110 = 0 then (Φ (0 : Int32) S111) else (¬ ((2 : Int32) < 0 ∨ S111.len l3A ≤ ((2 : Int32)).toNatClampNeg) ∧ rX4_isWithin F (S111.rI l3A ((2 : Int32)).toNatClampNeg) (0 : Int32) (1 : Int32) S111 fun v117 S118 => if v117 = 0 then (Φ (0 : Int32) S118) else (Φ (1 : Int32) S118)))) else (rX4_isGameItem F l3A x1 S fun v123 S124 => (v123 = 0 ∨ v123 = 1) ∧ Φ v123 S124)
set_option maxHeartbeats 4000000 in
set_option maxRecDepth 100000 in
theorem tX4_isItemOf {l : Launch} {g : wkG} {F : Nat}  {S : wPS} {l0A : Nat} {l1A : Nat} {l2I : Int32} {l3A : Nat} {Φ : (Int32 → wPS → Prop)} (hW : wkWF S) (hl0A : wkIs S l0A 4) (hl1A : wkIs S l1A 3) (hl3A : wkIs S l3A 13) (h : rX4_isItemOf F l0A l1A l2I l3A S Φ) : wkMet l g yX4_isItemOf wvX4_isItemOf 2 0 0 [.ref l0A, .ref l1A, .int l2I, .ref l3A] S (fun v' S'' => ∃ v : Int32, v' = some (.int v) ∧ Φ v S'' ∧ wkWF S'' ∧ wkExt S S'') := by
  refine wkMet_of (ret := (some .boolean)) (by decide) rfl (Nat.le_of_ble_eq_true rfl) (fun X hg C hR E => ?_)
  subst hg
  have hE : wkExt S S := wkExt.rf
  have hd : 2 ≤ 2 := Nat.le_refl _
  show wkGo l X 5 0 0 0 S [some (.ref l0A), some (.ref l1A), some (.int l2I), some (.ref l3A), none] []
  unfold rX4_isItemOf at h
  refine wk_aload_n C dX4_isItemOf_0 rfl rfl ?_
  refine wk_get C (v := .int (gEntry_size S l1A)) huX4_isItemOf_3 hl1A.1 (fun cy => wAt_3 cy _ hl1A.2) rfl 1 (by decide) (List.mem_of_getElem? (i := 1) rfl) rfl rfl dX4_isItemOf_1 ?_
  refine wk_iconst C (v := 1) dX4_isItemOf_4 (by decide) ?_
  refine wk_isub C dX4_isItemOf_5 rfl ?_
  obtain ⟨x1, ex1, h⟩ := wkLt_some h
  refine wk_topi ex1 ?_
  refine wk_istore C (lv' := [some (.ref l0A), some (.ref l1A), some (.int l2I), some (.ref l3A), some (.int x1)]) dX4_isItemOf_6 (by decide) rfl ?_
  refine wk_aload_n C dX4_isItemOf_8 rfl rfl ?_
  refine wk_get C (v := .int (gEntry_kind S l1A)) huX4_isItemOf_3 hl1A.1 (fun cy => wAt_3 cy _ hl1A.2) rfl 0 (by decide) (List.mem_of_getElem? (i := 2) rfl) rfl rfl dX4_isItemOf_9 ?_
  by_cases c3 : (gEntry_kind S l1A) = 0
  · rw [if_pos c3] at h
    rw [c3]
    refine wk_tabIn C (tgt := 72) (off := 60) dX4_isItemOf_12 (by decide) (by decide) (by decide) (by decide) ?_
    refine wk_aload_n C dX4_isItemOf_72 rfl rfl ?_
    refine wk_iload C dX4_isItemOf_73 rfl ?_
    refine wk_callW C hR (As := [.ref l3A, .int x1]) (cnt := 2) (tX4_areUnlikeNodes (l := l) hW hl3A h) rfl (wkGoodW (List.mem_of_getElem? (i := 3) rfl) (List.mem_of_getElem? (i := 4) rfl) (List.mem_of_getElem? (i := 5) rfl) hbX4_isItemOf_X4_areUnlikeNodes gdX4_areUnlikeNodes) (Nat.le_trans (by decide : 1 + 1 ≤ 2) hd) (by decide) ⟨by decide, by decide, by decide +kernel⟩ rfl rfl (Nat.le_of_ble_eq_true rfl) (Nat.le_refl 0) (Nat.le_refl 0) dX4_isItemOf_75 (fun v' S5 hp => ?_)
    obtain ⟨v4, rfl, h, hWS5, hXS5⟩ := hp
    obtain ⟨b9, h⟩ := h
    exact E _ _ _ _ _ _ (Nat.le_refl 0) (Nat.le_refl 0) dX4_isItemOf_78 (wkNarZ b9) ⟨v4, rfl, h, hWS5, (wkExt.tr hE hXS5)⟩
  · rw [if_neg c3] at h
    by_cases c10 : (gEntry_kind S l1A) = 1
    · rw [if_pos c10] at h
      rw [c10]
      refine wk_tabIn C (tgt := 79) (off := 67) dX4_isItemOf_12 (by decide) (by decide) (by decide) (by decide) ?_
      refine wk_aload_n C dX4_isItemOf_79 rfl rfl ?_
      refine wk_iload C dX4_isItemOf_80 rfl ?_
      refine wk_callW C hR (As := [.ref l3A, .int x1]) (cnt := 2) (tX4_areUnlikeNodes (l := l) hW hl3A h) rfl (wkGoodW (List.mem_of_getElem? (i := 3) rfl) (List.mem_of_getElem? (i := 4) rfl) (List.mem_of_getElem? (i := 5) rfl) hbX4_isItemOf_X4_areUnlikeNodes gdX4_areUnlikeNodes) (Nat.le_trans (by decide : 1 + 1 ≤ 2) hd) (by decide) ⟨by decide, by decide, by decide +kernel⟩ rfl rfl (Nat.le_of_ble_eq_true rfl) (Nat.le_refl 0) (Nat.le_refl 0) dX4_isItemOf_82 (fun v' S12 hp => ?_)
      obtain ⟨v11, rfl, h, hWS12, hXS12⟩ := hp
      refine wk_if_eq C (tgt := 104) dX4_isItemOf_85 (by decide) (fun c16 => ?_) (fun c16 => ?_)
      · rw [if_pos c16] at h
        refine wk_iconst C (v := 0) dX4_isItemOf_104 (by decide) ?_
        exact E _ _ _ _ _ _ (Nat.le_refl 0) (Nat.le_refl 0) dX4_isItemOf_105 rfl ⟨(0 : Int32), rfl, h, hWS12, (wkExt.tr hE hXS12)⟩
      · rw [if_neg c16] at h
        refine wk_aload_n C dX4_isItemOf_88 rfl rfl ?_
        refine wk_iconst C (v := 2) dX4_isItemOf_89 (by decide) ?_
        obtain ⟨i17, h⟩ := h
        refine wk_iald C (hXS12 _ _ hl3A).1 (hXS12 _ _ hl3A).2 i17 rfl dX4_isItemOf_90 ?_
        refine wk_iconst C (v := 0) dX4_isItemOf_91 (by decide) ?_
        refine wk_bipush C (v := 6) dX4_isItemOf_92 (by decide) ?_
        refine wk_callW C hR (As := [.int (S12.rI l3A ((2 : Int32)).toNatClampNeg), .int (0 : Int32), .int (6 : Int32)]) (cnt := 3) (tX4_isWithin (l := l) hWS12  h) rfl (wkGoodW (List.mem_of_getElem? (i := 6) rfl) (List.mem_of_getElem? (i := 7) rfl) (List.mem_of_getElem? (i := 5) rfl) hbX4_isItemOf_X4_isWithin gdX4_isWithin) (Nat.le_trans (by decide : 0 + 1 ≤ 2) hd) (by decide) ⟨by decide, by decide, by decide +kernel⟩ rfl rfl (Nat.le_of_ble_eq_true rfl) (Nat.le_refl 0) (Nat.le_refl 0) dX4_isItemOf_94 (fun v' S19 hp => ?_)
        obtain ⟨v18, rfl, h, hWS19, hXS19⟩ := hp
        refine wk_if_eq C (tgt := 104) dX4_isItemOf_97 (by decide) (fun c23 => ?_) (fun c23 => ?_)
        · rw [if_pos c23] at h
          refine wk_iconst C (v := 0) dX4_isItemOf_104 (by decide) ?_
          exact E _ _ _ _ _ _ (Nat.le_refl 0) (Nat.le_refl 0) dX4_isItemOf_105 rfl ⟨(0 : Int32), rfl, h, hWS19, (wkExt.tr (wkExt.tr hE hXS12) hXS19)⟩
        · rw [if_neg c23] at h
          refine wk_iconst C (v := 1) dX4_isItemOf_100 (by decide) ?_
          refine wk_goto C (tgt := 105) dX4_isItemOf_101 (by decide) ?_
          exact E _ _ _ _ _ _ (Nat.le_refl 0) (Nat.le_refl 0) dX4_isItemOf_105 rfl ⟨(1 : Int32), rfl, h, hWS19, (wkExt.tr (wkExt.tr hE hXS12) hXS19)⟩
    · rw [if_neg c10] at h
      by_cases c24 : (gEntry_kind S l1A) = 2
      · rw [if_pos c24] at h
        rw [c24]
        refine wk_tabIn C (tgt := 72) (off := 60) dX4_isItemOf_12 (by decide) (by decide) (by decide) (by decide) ?_
        refine wk_aload_n C dX4_isItemOf_72 rfl rfl ?_
        refine wk_iload C dX4_isItemOf_73 rfl ?_
        refine wk_callW C hR (As := [.ref l3A, .int x1]) (cnt := 2) (tX4_areUnlikeNodes (l := l) hW hl3A h) rfl (wkGoodW (List.mem_of_getElem? (i := 3) rfl) (List.mem_of_getElem? (i := 4) rfl) (List.mem_of_getElem? (i := 5) rfl) hbX4_isItemOf_X4_areUnlikeNodes gdX4_areUnlikeNodes) (Nat.le_trans (by decide : 1 + 1 ≤ 2) hd) (by decide) ⟨by decide, by decide, by decide +kernel⟩ rfl rfl (Nat.le_of_ble_eq_true rfl) (Nat.le_refl 0) (Nat.le_refl 0) dX4_isItemOf_75 (fun v' S26 hp => ?_)
        obtain ⟨v25, rfl, h, hWS26, hXS26⟩ := hp
        obtain ⟨b30, h⟩ := h
        exact E _ _ _ _ _ _ (Nat.le_refl 0) (Nat.le_refl 0) dX4_isItemOf_78 (wkNarZ b30) ⟨v25, rfl, h, hWS26, (wkExt.tr hE hXS26)⟩
      · rw [if_neg c24] at h
        by_cases c31 : (gEntry_kind S l1A) = 3
        · rw [if_pos c31] at h
          rw [c31]
          refine wk_tabIn C (tgt := 106) (off := 94) dX4_isItemOf_12 (by decide) (by decide) (by decide) (by decide) ?_
          refine wk_aload_n C dX4_isItemOf_106 rfl rfl ?_
          refine wk_aload_n C dX4_isItemOf_107 rfl rfl ?_
          refine wk_get C (v := .int (gEntry_size S l1A)) huX4_isItemOf_3 hl1A.1 (fun cy => wAt_3 cy _ hl1A.2) rfl 1 (by decide) (List.mem_of_getElem? (i := 1) rfl) rfl rfl dX4_isItemOf_108 ?_
          refine wk_bipush C (v := 9) dX4_isItemOf_111 (by decide) ?_
          refine wk_callW C hR (As := [.ref l3A, .int (gEntry_size S l1A), .int (9 : Int32)]) (cnt := 3) (tX4_areWithin (l := l) hW hl3A h) rfl (wkGoodW (List.mem_of_getElem? (i := 8) rfl) (List.mem_of_getElem? (i := 9) rfl) (List.mem_of_getElem? (i := 5) rfl) hbX4_isItemOf_X4_areWithin gdX4_areWithin) (Nat.le_trans (by decide : 1 + 1 ≤ 2) hd) (by decide) ⟨by decide, by decide, by decide +kernel⟩ rfl rfl (Nat.le_of_ble_eq_true rfl) (Nat.le_refl 0) (Nat.le_refl 0) dX4_isItemOf_113 (fun v' S33 hp => ?_)
          obtain ⟨v32, rfl, h, hWS33, hXS33⟩ := hp
          refine wk_if_eq C (tgt := 136) dX4_isItemOf_116 (by decide) (fun c37 => ?_) (fun c37 => ?_)
          · rw [if_pos c37] at h
            refine wk_iconst C (v := 0) dX4_isItemOf_136 (by decide) ?_
            exact E _ _ _ _ _ _ (Nat.le_refl 0) (Nat.le_refl 0) dX4_isItemOf_137 rfl ⟨(0 : Int32), rfl, h, hWS33, (wkExt.tr hE hXS33)⟩
          · rw [if_neg c37] at h
            refine wk_aload_n C dX4_isItemOf_119 rfl rfl ?_
            refine wk_iconst C (v := 4) dX4_isItemOf_120 (by decide) ?_
            obtain ⟨i38, h⟩ := h
            refine wk_iald C (hXS33 _ _ hl3A).1 (hXS33 _ _ hl3A).2 i38 rfl dX4_isItemOf_121 ?_
            refine wk_bipush C (v := (-60)) dX4_isItemOf_122 (by decide) ?_
            refine wk_bipush C (v := 60) dX4_isItemOf_124 (by decide) ?_
            refine wk_callW C hR (As := [.int (S33.rI l3A ((4 : Int32)).toNatClampNeg), .int (-60 : Int32), .int (60 : Int32)]) (cnt := 3) (tX4_isWithin (l := l) hWS33  h) rfl (wkGoodW (List.mem_of_getElem? (i := 6) rfl) (List.mem_of_getElem? (i := 7) rfl) (List.mem_of_getElem? (i := 5) rfl) hbX4_isItemOf_X4_isWithin gdX4_isWithin) (Nat.le_trans (by decide : 0 + 1 ≤ 2) hd) (by decide) ⟨by decide, by decide, by decide +kernel⟩ rfl rfl (Nat.le_of_ble_eq_true rfl) (Nat.le_refl 0) (Nat.le_refl 0) dX4_isItemOf_126 (fun v' S40 hp => ?_)
            obtain ⟨v39, rfl, h, hWS40, hXS40⟩ := hp
            refine wk_if_eq C (tgt := 136) dX4_isItemOf_129 (by decide) (fun c44 => ?_) (fun c44 => ?_)
            · rw [if_pos c44] at h
              refine wk_iconst C (v := 0) dX4_isItemOf_136 (by decide) ?_
              exact E _ _ _ _ _ _ (Nat.le_refl 0) (Nat.le_refl 0) dX4_isItemOf_137 rfl ⟨(0 : Int32), rfl, h, hWS40, (wkExt.tr (wkExt.tr hE hXS33) hXS40)⟩
            · rw [if_neg c44] at h
              refine wk_iconst C (v := 1) dX4_isItemOf_132 (by decide) ?_
              refine wk_goto C (tgt := 137) dX4_isItemOf_133 (by decide) ?_
              exact E _ _ _ _ _ _ (Nat.le_refl 0) (Nat.le_refl 0) dX4_isItemOf_137 rfl ⟨(1 : Int32), rfl, h, hWS40, (wkExt.tr (wkExt.tr hE hXS33) hXS40)⟩
        · rw [if_neg c31] at h
          by_cases c45 : (gEntry_kind S l1A) = 4
          · rw [if_pos c45] at h
            rw [c45]
            refine wk_tabIn C (tgt := 138) (off := 126) dX4_isItemOf_12 (by decide) (by decide) (by decide) (by decide) ?_
            refine wk_aload_n C dX4_isItemOf_138 rfl rfl ?_
            refine wk_iconst C (v := 3) dX4_isItemOf_139 (by decide) ?_
            refine wk_aload_n C dX4_isItemOf_140 rfl rfl ?_
            refine wk_get C (v := .int (gEntry_size S l1A)) huX4_isItemOf_3 hl1A.1 (fun cy => wAt_3 cy _ hl1A.2) rfl 1 (by decide) (List.mem_of_getElem? (i := 1) rfl) rfl rfl dX4_isItemOf_141 ?_
            refine wk_callW C hR (As := [.ref l3A, .int (3 : Int32), .int (gEntry_size S l1A)]) (cnt := 3) (tX4_areWithin (l := l) hW hl3A h) rfl (wkGoodW (List.mem_of_getElem? (i := 8) rfl) (List.mem_of_getElem? (i := 9) rfl) (List.mem_of_getElem? (i := 5) rfl) hbX4_isItemOf_X4_areWithin gdX4_areWithin) (Nat.le_trans (by decide : 1 + 1 ≤ 2) hd) (by decide) ⟨by decide, by decide, by decide +kernel⟩ rfl rfl (Nat.le_of_ble_eq_true rfl) (Nat.le_refl 0) (Nat.le_refl 0) dX4_isItemOf_144 (fun v' S47 hp => ?_)
            obtain ⟨v46, rfl, h, hWS47, hXS47⟩ := hp
            refine wk_if_eq C (tgt := 172) dX4_isItemOf_147 (by decide) (fun c51 => ?_) (fun c51 => ?_)
            · rw [if_pos c51] at h
              refine wk_iconst C (v := 0) dX4_isItemOf_172 (by decide) ?_
              exact E _ _ _ _ _ _ (Nat.le_refl 0) (Nat.le_refl 0) dX4_isItemOf_173 rfl ⟨(0 : Int32), rfl, h, hWS47, (wkExt.tr hE hXS47)⟩
            · rw [if_neg c51] at h
              refine wk_aload_n C dX4_isItemOf_150 rfl rfl ?_
              refine wk_iconst C (v := 0) dX4_isItemOf_151 (by decide) ?_
              obtain ⟨i52, h⟩ := h
              refine wk_iald C (hXS47 _ _ hl3A).1 (hXS47 _ _ hl3A).2 i52 rfl dX4_isItemOf_152 ?_
              refine wk_if_ne C (tgt := 168) dX4_isItemOf_153 (by decide) (fun c53 => ?_) (fun c53 => ?_)
              · rw [if_neg c53] at h
                refine wk_iconst C (v := 1) dX4_isItemOf_168 (by decide) ?_
                refine wk_goto C (tgt := 173) dX4_isItemOf_169 (by decide) ?_
                exact E _ _ _ _ _ _ (Nat.le_refl 0) (Nat.le_refl 0) dX4_isItemOf_173 rfl ⟨(1 : Int32), rfl, h, hWS47, (wkExt.tr hE hXS47)⟩
              · rw [if_pos c53] at h
                refine wk_aload_n C dX4_isItemOf_156 rfl rfl ?_
                refine wk_iconst C (v := 1) dX4_isItemOf_157 (by decide) ?_
                obtain ⟨i54, h⟩ := h
                refine wk_iald C (hXS47 _ _ hl3A).1 (hXS47 _ _ hl3A).2 i54 rfl dX4_isItemOf_158 ?_
                refine wk_if_ne C (tgt := 168) dX4_isItemOf_159 (by decide) (fun c55 => ?_) (fun c55 => ?_)
                · rw [if_neg c55] at h
                  refine wk_iconst C (v := 1) dX4_isItemOf_168 (by decide) ?_
                  refine wk_goto C (tgt := 173) dX4_isItemOf_169 (by decide) ?_
                  exact E _ _ _ _ _ _ (Nat.le_refl 0) (Nat.le_refl 0) dX4_isItemOf_173 rfl ⟨(1 : Int32), rfl, h, hWS47, (wkExt.tr hE hXS47)⟩
                · rw [if_pos c55] at h
                  refine wk_aload_n C dX4_isItemOf_162 rfl rfl ?_
                  refine wk_iconst C (v := 2) dX4_isItemOf_163 (by decide) ?_
                  obtain ⟨i56, h⟩ := h
                  refine wk_iald C (hXS47 _ _ hl3A).1 (hXS47 _ _ hl3A).2 i56 rfl dX4_isItemOf_164 ?_
                  refine wk_if_eq C (tgt := 172) dX4_isItemOf_165 (by decide) (fun c57 => ?_) (fun c57 => ?_)
                  · rw [if_pos c57] at h
                    refine wk_iconst C (v := 0) dX4_isItemOf_172 (by decide) ?_
                    exact E _ _ _ _ _ _ (Nat.le_refl 0) (Nat.le_refl 0) dX4_isItemOf_173 rfl ⟨(0 : Int32), rfl, h, hWS47, (wkExt.tr hE hXS47)⟩
                  · rw [if_neg c57] at h
                    refine wk_iconst C (v := 1) dX4_isItemOf_168 (by decide) ?_
                    refine wk_goto C (tgt := 173) dX4_isItemOf_169 (by decide) ?_
                    exact E _ _ _ _ _ _ (Nat.le_refl 0) (Nat.le_refl 0) dX4_isItemOf_173 rfl ⟨(1 : Int32), rfl, h, hWS47, (wkExt.tr hE hXS47)⟩
          · rw [if_neg c45] at h
            by_cases c58 : (gEntry_kind S l1A) = 5
            · rw [if_pos c58] at h
              rw [c58]
              refine wk_tabIn C (tgt := 174) (off := 162) dX4_isItemOf_12 (by decide) (by decide) (by decide) (by decide) ?_
              refine wk_aload_n C dX4_isItemOf_174 rfl rfl ?_
              refine wk_aload_n C dX4_isItemOf_175 rfl rfl ?_
              refine wk_get C (v := .int (gEntry_size S l1A)) huX4_isItemOf_3 hl1A.1 (fun cy => wAt_3 cy _ hl1A.2) rfl 1 (by decide) (List.mem_of_getElem? (i := 1) rfl) rfl rfl dX4_isItemOf_176 ?_
              refine wk_bipush C (v := 6) dX4_isItemOf_179 (by decide) ?_
              refine wk_callW C hR (As := [.ref l3A, .int (gEntry_size S l1A), .int (6 : Int32)]) (cnt := 3) (tX4_areWithin (l := l) hW hl3A h) rfl (wkGoodW (List.mem_of_getElem? (i := 8) rfl) (List.mem_of_getElem? (i := 9) rfl) (List.mem_of_getElem? (i := 5) rfl) hbX4_isItemOf_X4_areWithin gdX4_areWithin) (Nat.le_trans (by decide : 1 + 1 ≤ 2) hd) (by decide) ⟨by decide, by decide, by decide +kernel⟩ rfl rfl (Nat.le_of_ble_eq_true rfl) (Nat.le_refl 0) (Nat.le_refl 0) dX4_isItemOf_181 (fun v' S60 hp => ?_)
              obtain ⟨v59, rfl, h, hWS60, hXS60⟩ := hp
              refine wk_if_eq C (tgt := 204) dX4_isItemOf_184 (by decide) (fun c64 => ?_) (fun c64 => ?_)
              · rw [if_pos c64] at h
                refine wk_iconst C (v := 0) dX4_isItemOf_204 (by decide) ?_
                exact E _ _ _ _ _ _ (Nat.le_refl 0) (Nat.le_refl 0) dX4_isItemOf_205 rfl ⟨(0 : Int32), rfl, h, hWS60, (wkExt.tr hE hXS60)⟩
              · rw [if_neg c64] at h
                refine wk_aload_n C dX4_isItemOf_187 rfl rfl ?_
                refine wk_iconst C (v := 4) dX4_isItemOf_188 (by decide) ?_
                obtain ⟨i65, h⟩ := h
                refine wk_iald C (hXS60 _ _ hl3A).1 (hXS60 _ _ hl3A).2 i65 rfl dX4_isItemOf_189 ?_
                refine wk_bipush C (v := (-20)) dX4_isItemOf_190 (by decide) ?_
                refine wk_bipush C (v := 20) dX4_isItemOf_192 (by decide) ?_
                refine wk_callW C hR (As := [.int (S60.rI l3A ((4 : Int32)).toNatClampNeg), .int (-20 : Int32), .int (20 : Int32)]) (cnt := 3) (tX4_isWithin (l := l) hWS60  h) rfl (wkGoodW (List.mem_of_getElem? (i := 6) rfl) (List.mem_of_getElem? (i := 7) rfl) (List.mem_of_getElem? (i := 5) rfl) hbX4_isItemOf_X4_isWithin gdX4_isWithin) (Nat.le_trans (by decide : 0 + 1 ≤ 2) hd) (by decide) ⟨by decide, by decide, by decide +kernel⟩ rfl rfl (Nat.le_of_ble_eq_true rfl) (Nat.le_refl 0) (Nat.le_refl 0) dX4_isItemOf_194 (fun v' S67 hp => ?_)
                obtain ⟨v66, rfl, h, hWS67, hXS67⟩ := hp
                refine wk_if_eq C (tgt := 204) dX4_isItemOf_197 (by decide) (fun c71 => ?_) (fun c71 => ?_)
                · rw [if_pos c71] at h
                  refine wk_iconst C (v := 0) dX4_isItemOf_204 (by decide) ?_
                  exact E _ _ _ _ _ _ (Nat.le_refl 0) (Nat.le_refl 0) dX4_isItemOf_205 rfl ⟨(0 : Int32), rfl, h, hWS67, (wkExt.tr (wkExt.tr hE hXS60) hXS67)⟩
                · rw [if_neg c71] at h
                  refine wk_iconst C (v := 1) dX4_isItemOf_200 (by decide) ?_
                  refine wk_goto C (tgt := 205) dX4_isItemOf_201 (by decide) ?_
                  exact E _ _ _ _ _ _ (Nat.le_refl 0) (Nat.le_refl 0) dX4_isItemOf_205 rfl ⟨(1 : Int32), rfl, h, hWS67, (wkExt.tr (wkExt.tr hE hXS60) hXS67)⟩
            · rw [if_neg c58] at h
              by_cases c72 : (gEntry_kind S l1A) = 6
              · rw [if_pos c72] at h
                rw [c72]
                refine wk_tabIn C (tgt := 206) (off := 194) dX4_isItemOf_12 (by decide) (by decide) (by decide) (by decide) ?_
                refine wk_iconst C (v := 1) dX4_isItemOf_206 (by decide) ?_
                exact E _ _ _ _ _ _ (Nat.le_refl 0) (Nat.le_refl 0) dX4_isItemOf_207 rfl ⟨(1 : Int32), rfl, h, hW, hE⟩
              · rw [if_neg c72] at h
                by_cases c73 : (gEntry_kind S l1A) = 7
                · rw [if_pos c73] at h
                  rw [c73]
                  refine wk_tabIn C (tgt := 208) (off := 196) dX4_isItemOf_12 (by decide) (by decide) (by decide) (by decide) ?_
                  refine wk_aload_n C dX4_isItemOf_208 rfl rfl ?_
                  refine wk_iconst C (v := 4) dX4_isItemOf_209 (by decide) ?_
                  refine wk_bipush C (v := 7) dX4_isItemOf_210 (by decide) ?_
                  refine wk_callW C hR (As := [.ref l3A, .int (4 : Int32), .int (7 : Int32)]) (cnt := 3) (tX4_areWithin (l := l) hW hl3A h) rfl (wkGoodW (List.mem_of_getElem? (i := 8) rfl) (List.mem_of_getElem? (i := 9) rfl) (List.mem_of_getElem? (i := 5) rfl) hbX4_isItemOf_X4_areWithin gdX4_areWithin) (Nat.le_trans (by decide : 1 + 1 ≤ 2) hd) (by decide) ⟨by decide, by decide, by decide +kernel⟩ rfl rfl (Nat.le_of_ble_eq_true rfl) (Nat.le_refl 0) (Nat.le_refl 0) dX4_isItemOf_212 (fun v' S75 hp => ?_)
                  obtain ⟨v74, rfl, h, hWS75, hXS75⟩ := hp
                  obtain ⟨b79, h⟩ := h
                  exact E _ _ _ _ _ _ (Nat.le_refl 0) (Nat.le_refl 0) dX4_isItemOf_215 (wkNarZ b79) ⟨v74, rfl, h, hWS75, (wkExt.tr hE hXS75)⟩
                · rw [if_neg c73] at h
                  by_cases c80 : (gEntry_kind S l1A) = 8
                  · rw [if_pos c80] at h
                    rw [c80]
                    refine wk_tabIn C (tgt := 216) (off := 204) dX4_isItemOf_12 (by decide) (by decide) (by decide) (by decide) ?_
                    refine wk_aload_n C dX4_isItemOf_216 rfl rfl ?_
                    refine wk_iload C dX4_isItemOf_217 rfl ?_
                    refine wk_callW C hR (As := [.ref l3A, .int x1]) (cnt := 2) (tX4_areUnlikePoints (l := l) hW hl3A h) rfl (wkGoodW (List.mem_of_getElem? (i := 10) rfl) (List.mem_of_getElem? (i := 11) rfl) (List.mem_of_getElem? (i := 5) rfl) hbX4_isItemOf_X4_areUnlikePoints gdX4_areUnlikePoints) (Nat.le_trans (by decide : 1 + 1 ≤ 2) hd) (by decide) ⟨by decide, by decide, by decide +kernel⟩ rfl rfl (Nat.le_of_ble_eq_true rfl) (Nat.le_refl 0) (Nat.le_refl 0) dX4_isItemOf_219 (fun v' S82 hp => ?_)
                    obtain ⟨v81, rfl, h, hWS82, hXS82⟩ := hp
                    obtain ⟨b86, h⟩ := h
                    exact E _ _ _ _ _ _ (Nat.le_refl 0) (Nat.le_refl 0) dX4_isItemOf_222 (wkNarZ b86) ⟨v81, rfl, h, hWS82, (wkExt.tr hE hXS82)⟩
                  · rw [if_neg c80] at h
                    by_cases c87 : (gEntry_kind S l1A) = 9
                    · rw [if_pos c87] at h
                      rw [c87]
                      refine wk_tabIn C (tgt := 223) (off := 211) dX4_isItemOf_12 (by decide) (by decide) (by decide) (by decide) ?_
                      refine wk_aload_n C dX4_isItemOf_223 rfl rfl ?_
                      refine wk_iload_n C dX4_isItemOf_224 rfl rfl ?_
                      refine wk_if_ne C (tgt := 234) dX4_isItemOf_225 (by decide) (fun c88 => ?_) (fun c88 => ?_)
                      · rw [if_neg c88] at h
                        refine wk_bipush C (v := 31) dX4_isItemOf_234 (by decide) ?_
                        refine wk_callW C hR (As := [.ref l3A, .int (31 : Int32)]) (cnt := 2) (tX4_areWords (l := l) hW hl3A h) rfl (wkGoodW (List.mem_of_getElem? (i := 12) rfl) (List.mem_of_getElem? (i := 13) rfl) (List.mem_of_getElem? (i := 5) rfl) hbX4_isItemOf_X4_areWords gdX4_areWords) (Nat.le_trans (by decide : 1 + 1 ≤ 2) hd) (by decide) ⟨by decide, by decide, by decide +kernel⟩ rfl rfl (Nat.le_of_ble_eq_true rfl) (Nat.le_refl 0) (Nat.le_refl 0) dX4_isItemOf_236 (fun v' S90 hp => ?_)
                        obtain ⟨v89, rfl, h, hWS90, hXS90⟩ := hp
                        obtain ⟨b94, h⟩ := h
                        exact E _ _ _ _ _ _ (Nat.le_refl 0) (Nat.le_refl 0) dX4_isItemOf_239 (wkNarZ b94) ⟨v89, rfl, h, hWS90, (wkExt.tr hE hXS90)⟩
                      · rw [if_pos c88] at h
                        refine wk_sipush C (v := 255) dX4_isItemOf_228 (by decide) ?_
                        refine wk_goto C (tgt := 236) dX4_isItemOf_231 (by decide) ?_
                        refine wk_callW C hR (As := [.ref l3A, .int (255 : Int32)]) (cnt := 2) (tX4_areWords (l := l) hW hl3A h) rfl (wkGoodW (List.mem_of_getElem? (i := 12) rfl) (List.mem_of_getElem? (i := 13) rfl) (List.mem_of_getElem? (i := 5) rfl) hbX4_isItemOf_X4_areWords gdX4_areWords) (Nat.le_trans (by decide : 1 + 1 ≤ 2) hd) (by decide) ⟨by decide, by decide, by decide +kernel⟩ rfl rfl (Nat.le_of_ble_eq_true rfl) (Nat.le_refl 0) (Nat.le_refl 0) dX4_isItemOf_236 (fun v' S96 hp => ?_)
                        obtain ⟨v95, rfl, h, hWS96, hXS96⟩ := hp
                        obtain ⟨b100, h⟩ := h
                        exact E _ _ _ _ _ _ (Nat.le_refl 0) (Nat.le_refl 0) dX4_isItemOf_239 (wkNarZ b100) ⟨v95, rfl, h, hWS96, (wkExt.tr hE hXS96)⟩
                    · rw [if_neg c87] at h
                      by_cases c101 : (gEntry_kind S l1A) = 10
                      · rw [if_pos c101] at h
                        rw [c101]
                        refine wk_tabIn C (tgt := 240) (off := 228) dX4_isItemOf_12 (by decide) (by decide) (by decide) (by decide) ?_
                        refine wk_aload_n C dX4_isItemOf_240 rfl rfl ?_
                        refine wk_iconst C (v := 0) dX4_isItemOf_241 (by decide) ?_
                        obtain ⟨i102, h⟩ := h
                        refine wk_iald C hl3A.1 hl3A.2 i102 rfl dX4_isItemOf_242 ?_
                        refine wk_iconst C (v := 0) dX4_isItemOf_243 (by decide) ?_
                        refine wk_iload C dX4_isItemOf_244 rfl ?_
                        refine wk_callW C hR (As := [.int (S.rI l3A ((0 : Int32)).toNatClampNeg), .int (0 : Int32), .int x1]) (cnt := 3) (tX4_isWithin (l := l) hW  h) rfl (wkGoodW (List.mem_of_getElem? (i := 6) rfl) (List.mem_of_getElem? (i := 7) rfl) (List.mem_of_getElem? (i := 5) rfl) hbX4_isItemOf_X4_isWithin gdX4_isWithin) (Nat.le_trans (by decide : 0 + 1 ≤ 2) hd) (by decide) ⟨by decide, by decide, by decide +kernel⟩ rfl rfl (Nat.le_of_ble_eq_true rfl) (Nat.le_refl 0) (Nat.le_refl 0) dX4_isItemOf_246 (fun v' S104 hp => ?_)
                        obtain ⟨v103, rfl, h, hWS104, hXS104⟩ := hp
                        refine wk_if_eq C (tgt := 279) dX4_isItemOf_249 (by decide) (fun c108 => ?_) (fun c108 => ?_)
                        · rw [if_pos c108] at h
                          refine wk_iconst C (v := 0) dX4_isItemOf_279 (by decide) ?_
                          exact E _ _ _ _ _ _ (Nat.le_refl 0) (Nat.le_refl 0) dX4_isItemOf_280 rfl ⟨(0 : Int32), rfl, h, hWS104, (wkExt.tr hE hXS104)⟩
                        · rw [if_neg c108] at h
                          refine wk_aload_n C dX4_isItemOf_252 rfl rfl ?_
                          refine wk_iconst C (v := 1) dX4_isItemOf_253 (by decide) ?_
                          obtain ⟨i109, h⟩ := h
                          refine wk_iald C (hXS104 _ _ hl3A).1 (hXS104 _ _ hl3A).2 i109 rfl dX4_isItemOf_254 ?_
                          refine wk_iconst C (v := 0) dX4_isItemOf_255 (by decide) ?_
                          refine wk_iload C dX4_isItemOf_256 rfl ?_
                          refine wk_callW C hR (As := [.int (S104.rI l3A ((1 : Int32)).toNatClampNeg), .int (0 : Int32), .int x1]) (cnt := 3) (tX4_isWithin (l := l) hWS104  h) rfl (wkGoodW (List.mem_of_getElem? (i := 6) rfl) (List.mem_of_getElem? (i := 7) rfl) (List.mem_of_getElem? (i := 5) rfl) hbX4_isItemOf_X4_isWithin gdX4_isWithin) (Nat.le_trans (by decide : 0 + 1 ≤ 2) hd) (by decide) ⟨by decide, by decide, by decide +kernel⟩ rfl rfl (Nat.le_of_ble_eq_true rfl) (Nat.le_refl 0) (Nat.le_refl 0) dX4_isItemOf_258 (fun v' S111 hp => ?_)
                          obtain ⟨v110, rfl, h, hWS111, hXS111⟩ := hp
                          refine wk_if_eq C (tgt := 279) dX4_isItemOf_261 (by decide) (fun c115 => ?_) (fun c115 => ?_)
                          · rw [if_pos c115] at h
                            refine wk_iconst C (v := 0) dX4_isItemOf_279 (by decide) ?_
                            exact E _ _ _ _ _ _ (Nat.le_refl 0) (Nat.le_refl 0) dX4_isItemOf_280 rfl ⟨(0 : Int32), rfl, h, hWS111, (wkExt.tr (wkExt.tr hE hXS104) hXS111)⟩
                          · rw [if_neg c115] at h
                            refine wk_aload_n C dX4_isItemOf_264 rfl rfl ?_
                            refine wk_iconst C (v := 2) dX4_isItemOf_265 (by decide) ?_
                            obtain ⟨i116, h⟩ := h
                            refine wk_iald C (hXS111 _ _ (hXS104 _ _ hl3A)).1 (hXS111 _ _ (hXS104 _ _ hl3A)).2 i116 rfl dX4_isItemOf_266 ?_
                            refine wk_iconst C (v := 0) dX4_isItemOf_267 (by decide) ?_
                            refine wk_iconst C (v := 1) dX4_isItemOf_268 (by decide) ?_
                            refine wk_callW C hR (As := [.int (S111.rI l3A ((2 : Int32)).toNatClampNeg), .int (0 : Int32), .int (1 : Int32)]) (cnt := 3) (tX4_isWithin (l := l) hWS111  h) rfl (wkGoodW (List.mem_of_getElem? (i := 6) rfl) (List.mem_of_getElem? (i := 7) rfl) (List.mem_of_getElem? (i := 5) rfl) hbX4_isItemOf_X4_isWithin gdX4_isWithin) (Nat.le_trans (by decide : 0 + 1 ≤ 2) hd) (by decide) ⟨by decide, by decide, by decide +kernel⟩ rfl rfl (Nat.le_of_ble_eq_true rfl) (Nat.le_refl 0) (Nat.le_refl 0) dX4_isItemOf_269 (fun v' S118 hp => ?_)
                            obtain ⟨v117, rfl, h, hWS118, hXS118⟩ := hp
                            refine wk_if_eq C (tgt := 279) dX4_isItemOf_272 (by decide) (fun c122 => ?_) (fun c122 => ?_)
                            · rw [if_pos c122] at h
                              refine wk_iconst C (v := 0) dX4_isItemOf_279 (by decide) ?_
                              exact E _ _ _ _ _ _ (Nat.le_refl 0) (Nat.le_refl 0) dX4_isItemOf_280 rfl ⟨(0 : Int32), rfl, h, hWS118, (wkExt.tr (wkExt.tr (wkExt.tr hE hXS104) hXS111) hXS118)⟩
                            · rw [if_neg c122] at h
                              refine wk_iconst C (v := 1) dX4_isItemOf_275 (by decide) ?_
                              refine wk_goto C (tgt := 280) dX4_isItemOf_276 (by decide) ?_
                              exact E _ _ _ _ _ _ (Nat.le_refl 0) (Nat.le_refl 0) dX4_isItemOf_280 rfl ⟨(1 : Int32), rfl, h, hWS118, (wkExt.tr (wkExt.tr (wkExt.tr hE hXS104) hXS111) hXS118)⟩
                      · rw [if_neg c101] at h
                        refine wk_tabOut C (tgt := 281) dX4_isItemOf_12 (wkOut (fun z h1 h2 e => by
                            have hz : z = 0 ∨ z = 1 ∨ z = 2 ∨ z = 3 ∨ z = 4 ∨ z = 5 ∨ z = 6 ∨ z = 7 ∨ z = 8 ∨ z = 9 ∨ z = 10 := by omega
                            rcases hz with rfl | rfl | rfl | rfl | rfl | rfl | rfl | rfl | rfl | rfl | rfl
                            · exact c3 e
                            · exact c10 e
                            · exact c24 e
                            · exact c31 e
                            · exact c45 e
                            · exact c58 e
                            · exact c72 e
                            · exact c73 e
                            · exact c80 e
                            · exact c87 e
                            · exact c101 e)) (by decide) ?_
                        refine wk_aload_n C dX4_isItemOf_281 rfl rfl ?_
                        refine wk_iload C dX4_isItemOf_282 rfl ?_
                        refine wk_callW C hR (As := [.ref l3A, .int x1]) (cnt := 2) (tX4_isGameItem (l := l) hW hl3A h) rfl (wkGoodW (List.mem_of_getElem? (i := 14) rfl) (List.mem_of_getElem? (i := 15) rfl) (List.mem_of_getElem? (i := 5) rfl) hbX4_isItemOf_X4_isGameItem gdX4_isGameItem) (Nat.le_trans (by decide : 1 + 1 ≤ 2) hd) (by decide) ⟨by decide, by decide, by decide +kernel⟩ rfl rfl (Nat.le_of_ble_eq_true rfl) (Nat.le_refl 0) (Nat.le_refl 0) dX4_isItemOf_284 (fun v' S124 hp => ?_)
                        obtain ⟨v123, rfl, h, hWS124, hXS124⟩ := hp
                        obtain ⟨b128, h⟩ := h
                        exact E _ _ _ _ _ _ (Nat.le_refl 0) (Nat.le_refl 0) dX4_isItemOf_287 (wkNarZ b128) ⟨v123, rfl, h, hWS124, (wkExt.tr hE hXS124)⟩
