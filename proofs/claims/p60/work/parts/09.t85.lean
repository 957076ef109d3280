def wvX11_open : List Cond := .code yX11_open cX11_open 5 (some .int) :: (([.methodLink RX11 66 yJ0_indexOf_0f7a4, .instanceMethod yJ0_indexOf_0f7a4, .selects RJ0 yJ0_indexOf_0f7a4 yJ0_indexOf_0f7a4, .initialized RJ0, .methodLink RX11 72 yX11_canHaveSize, .static yX11_canHaveSize, .initialized RX11, .methodLink RX11 76 yX11_canHaveBound, .static yX11_canHaveBound, .fieldLink RX11 86 "Witnessworks" "entryCount" "I", .fieldLink RX11 18 "Witnessworks" "book" "[LWitnessworks$Entry;", .methodLink RX11 95 yX3_begin, .instanceMethod yX3_begin, .selects RX3 yX3_begin yX3_begin, .initialized RX3, .methodLink RX11 99 yX11_remember, .instanceMethod yX11_remember, .selects RX11 yX11_remember yX11_remember] : List Cond) ++ ((wsX110) ++ (wvJ0_indexOf_0f7a4 ++ (wvX11_canHaveSize ++ (wvX11_canHaveBound ++ (wvX3_begin ++ (wvX11_remember)))))))
theorem huX11_open_11 : ∀ w ∈ u_ws RX11 TX11 19, w ∈ wvX11_open := fun w h => List.mem_cons_of_mem _ (List.mem_append_right _ (List.mem_append_left _ h))
theorem hbX11_open_J0_indexOf_0f7a4 : ∀ w ∈ wvJ0_indexOf_0f7a4, w ∈ wvX11_open := fun w h => List.mem_cons_of_mem _ (List.mem_append_right _ (List.mem_append_right _ (List.mem_append_left _ h)))
theorem hbX11_open_X11_canHaveSize : ∀ w ∈ wvX11_canHaveSize, w ∈ wvX11_open := fun w h => List.mem_cons_of_mem _ (List.mem_append_right _ (List.mem_append_right _ (List.mem_append_right _ (List.mem_append_left _ h))))
theorem hbX11_open_X11_canHaveBound : ∀ w ∈ wvX11_canHaveBound, w ∈ wvX11_open := fun w h => List.mem_cons_of_mem _ (List.mem_append_right _ (List.mem_append_right _ (List.mem_append_right _ (List.mem_append_right _ (List.mem_append_left _ h)))))
theorem hbX11_open_X3_begin : ∀ w ∈ wvX3_begin, w ∈ wvX11_open := fun w h => List.mem_cons_of_mem _ (List.mem_append_right _ (List.mem_append_right _ (List.mem_append_right _ (List.mem_append_right _ (List.mem_append_right _ (List.mem_append_left _ h))))))
theorem hbX11_open_X11_remember : ∀ w ∈ wvX11_remember, w ∈ wvX11_open := fun w h => List.mem_cons_of_mem _ (List.mem_append_right _ (List.mem_append_right _ (List.mem_append_right _ (List.mem_append_right _ (List.mem_append_right _ (List.mem_append_right _ h))))))
theorem gdX11_open : ∀ w ∈ wvX11_open, wkGd w := wkGdC rfl (wkGdA (wkGdL (by decide +kernel)) (wkGdA gdX11 (wkGdA gdJ0_indexOf_0f7a4 (wkGdA gdX11_canHaveSize (wkGdA gdX11_canHaveBound (wkGdA gdX3_begin gdX11_remember))))))
def rX11_open (F : Nat) (k n : Nat) (l0A : Nat) (l1I : Int32) (l2I : Int32) (l3I : Int32) (S : wPS) (Φ : (Int32 → wPS → Prop)) (Ψ : String → wPS → Prop) : Prop :=
  rJ0_indexOf_0f7a4 F l1I S fun v1 S2 => if v1 < 0 then (0 + 1 ≤ k ∧ 0 + 6 ≤ n ∧ Ψ "java/lang/IllegalArgumentException" S2) else (rX11_canHaveSize F v1 l2I S2 fun v8 S9 => if v8 = 0 then (0 + 1 ≤ k ∧ 0 + 6 ≤ n ∧ Ψ "java/lang/IllegalArgumentException" S9) else (rX11_canHaveBound F v1 l3I S9 fun v15 S16 => if v15 = 0 then (0 + 1 ≤ k ∧ 0 + 6 ≤ n ∧ Ψ "java/lang/IllegalArgumentException" S16) else (if (gWitnessworks_entryCount S16 l0A) < (12 : Int32) then (¬ ((gWitnessworks_entryCount S16 l0A) < 0 ∨ S16.len (wkAd (gWitnessworks_book S16 l0A)) ≤ ((gWitnessworks_entryCount S16 l0A)).toNatClampNeg) ∧ rX3_begin F (wkAd (S16.rA (wkAd (gWitnessworks_book S16 l0A)) ((gWitnessworks_entryCount S16 l0A)).toNatClampNeg)) v1 l2I l3I S16 fun v24 S25 => rX11_remember F l0A (111 : Int32) (gWitnessworks_entryCount S25 l0A) S25 fun v29 S30 => wkLt (wu_Witnessworks_entryCount S30 l0A ((gWitnessworks_entryCount S30 l0A) + (1 : Int32))) fun S34 => Φ ((gWitnessworks_entryCount S34 l0A) - (1 : Int32)) S34) else (0 + 1 ≤ k ∧ 0 + 6 ≤ n ∧ Ψ "java/lang/IllegalStateException" S16))))
set_option maxHeartbeats 4000000 in
set_option maxRecDepth 100000 in
theorem tX11_open {l : Launch} {g : wkG} {F : Nat} {k n : Nat}  {S : wPS} {l0A : Nat} {l1I : Int32} {l2I : Int32} {l3I : Int32} {Φ : (Int32 → wPS → Prop)} {Ψ : String → wPS → Prop} (hst : wkSta g) (hstr : wkStr g) (hex : wkExA g) (hlt : l.stackTraces = false) (hW : wkWF S) (hl0A : wkIs S l0A 11) (h : rX11_open F k n l0A l1I l2I l3I S Φ Ψ) : wkMetX l g yX11_open wvX11_open 6 k n [.ref l0A, .int l1I, .int l2I, .int l3I] S (fun v' S'' => ∃ v : Int32, v' = some (.int v) ∧ Φ v S'' ∧ wkWF S'' ∧ wkExt S S'') (fun E S'' => Ψ E S'' ∧ wkWF S'' ∧ wkExt S S'') := by
  refine wkMetX_of (ret := (some .int)) (by decide) rfl (Nat.le_of_ble_eq_true rfl) rfl hex hlt (by decide) (fun X hg C hR E EX ET => ?_)
  subst hg
  have hE : wkExt S S := wkExt.rf
  have hd : 6 ≤ 6 := Nat.le_refl _
  show wkGo l X 5 0 0 0 S [some (.ref l0A), some (.int l1I), some (.int l2I), some (.int l3I), none] []
  unfold rX11_open at h
  refine wk_ldcS C hstr rfl dX11_open_0 ?_
  refine wk_iload_n C dX11_open_2 rfl rfl ?_
  refine wk_callVS C hstr hR (As := [.int l1I]) (cnt := 1) (tJ0_indexOf_0f7a4 (l := l) hstr hW rfl h) rfl (wkGoodV (List.mem_of_getElem? (i := 1) rfl) (List.mem_of_getElem? (i := 2) rfl) (List.mem_of_getElem? (i := 3) rfl) (List.mem_of_getElem? (i := 4) rfl) hbX11_open_J0_indexOf_0f7a4 gdJ0_indexOf_0f7a4) (Nat.le_trans (by decide : 3 + 1 ≤ 6) hd) (by decide) rfl rfl ⟨by decide, by decide, by decide +kernel⟩ rfl rfl (Nat.le_of_ble_eq_true rfl) (Nat.zero_le _) (Nat.zero_le _) dX11_open_3 (fun v' S2 hp => ?_)
  obtain ⟨v1, rfl, h, hWS2, hXS2⟩ := hp
  refine wk_istore C (lv' := [some (.ref l0A), some (.int l1I), some (.int l2I), some (.int l3I), some (.int v1)]) dX11_open_6 (by decide) rfl ?_
  refine wk_iload C dX11_open_8 rfl ?_
  refine wk_if_lt C (tgt := 31) dX11_open_10 (by decide) (fun c6 => ?_) (fun c6 => ?_)
  · rw [if_pos c6] at h
    obtain ⟨t7a, t7b, h⟩ := h
    exact ET _ _ _ _ _ _ (79, 81, 83, "java/lang/IllegalArgumentException", "no such kind, size or bound") (by decide +kernel) (Nat.le_of_ble_eq_true rfl) (Or.inl ⟨dX11_open_31, dX11_open_34, dX11_open_35, dX11_open_37, dX11_open_40⟩) ⟨h, hWS2, (wkExt.tr hE hXS2)⟩ t7a t7b
  · rw [if_neg c6] at h
    refine wk_iload C dX11_open_13 rfl ?_
    refine wk_iload_n C dX11_open_15 rfl rfl ?_
    refine wk_callW C hR (As := [.int v1, .int l2I]) (cnt := 2) (tX11_canHaveSize (l := l) hst hWS2  h) rfl (wkGoodW (List.mem_of_getElem? (i := 5) rfl) (List.mem_of_getElem? (i := 6) rfl) (List.mem_of_getElem? (i := 7) rfl) hbX11_open_X11_canHaveSize gdX11_canHaveSize) (Nat.le_trans (by decide : 0 + 1 ≤ 6) hd) (by decide) ⟨by decide, by decide, by decide +kernel⟩ rfl rfl (Nat.le_of_ble_eq_true rfl) (Nat.zero_le _) (Nat.zero_le _) dX11_open_16 (fun v' S9 hp => ?_)
    obtain ⟨v8, rfl, h, hWS9, hXS9⟩ := hp
    refine wk_if_eq C (tgt := 31) dX11_open_19 (by decide) (fun c13 => ?_) (fun c13 => ?_)
    · rw [if_pos c13] at h
      obtain ⟨t14a, t14b, h⟩ := h
      exact ET _ _ _ _ _ _ (79, 81, 83, "java/lang/IllegalArgumentException", "no such kind, size or bound") (by decide +kernel) (Nat.le_of_ble_eq_true rfl) (Or.inl ⟨dX11_open_31, dX11_open_34, dX11_open_35, dX11_open_37, dX11_open_40⟩) ⟨h, hWS9, (wkExt.tr (wkExt.tr hE hXS2) hXS9)⟩ t14a t14b
    · rw [if_neg c13] at h
      refine wk_iload C dX11_open_22 rfl ?_
      refine wk_iload_n C dX11_open_24 rfl rfl ?_
      refine wk_callW C hR (As := [.int v1, .int l3I]) (cnt := 2) (tX11_canHaveBound (l := l) hst hWS9  h) rfl (wkGoodW (List.mem_of_getElem? (i := 8) rfl) (List.mem_of_getElem? (i := 9) rfl) (List.mem_of_getElem? (i := 7) rfl) hbX11_open_X11_canHaveBound gdX11_canHaveBound) (Nat.le_trans (by decide : 0 + 1 ≤ 6) hd) (by decide) ⟨by decide, by decide, by decide +kernel⟩ rfl rfl (Nat.le_of_ble_eq_true rfl) (Nat.zero_le _) (Nat.zero_le _) dX11_open_25 (fun v' S16 hp => ?_)
      obtain ⟨v15, rfl, h, hWS16, hXS16⟩ := hp
      refine wk_if_ne C (tgt := 41) dX11_open_28 (by decide) (fun c20 => ?_) (fun c20 => ?_)
      · rw [if_neg c20] at h
        refine wk_aload_n C dX11_open_41 rfl rfl ?_
        refine wk_get C (v := .int (gWitnessworks_entryCount S16 l0A)) huX11_open_11 (hXS16 _ _ (hXS9 _ _ (hXS2 _ _ hl0A))).1 (fun cy => wAt_11 cy _ (hXS16 _ _ (hXS9 _ _ (hXS2 _ _ hl0A))).2) rfl 2 (by decide) (List.mem_of_getElem? (i := 10) rfl) rfl rfl dX11_open_42 ?_
        refine wk_bipush C (v := 12) dX11_open_45 (by decide) ?_
        refine wk_icmp_lt C (tgt := 60) dX11_open_47 (by decide) (fun c21 => ?_) (fun c21 => ?_)
        · rw [if_pos c21] at h
          refine wk_aload_n C dX11_open_60 rfl rfl ?_
          refine wk_get C huX11_open_11 (hXS16 _ _ (hXS9 _ _ (hXS2 _ _ hl0A))).1 (fun cy => wAt_11 cy _ (hXS16 _ _ (hXS9 _ _ (hXS2 _ _ hl0A))).2) rfl 1 (by decide) (List.mem_of_getElem? (i := 11) rfl) rfl (congrArg some (congrArg va_rf (wf_Witnessworks_book hWS16 (hXS16 _ _ (hXS9 _ _ (hXS2 _ _ hl0A)))).1)) dX11_open_61 ?_
          refine wk_aload_n C dX11_open_64 rfl rfl ?_
          refine wk_get C (v := .int (gWitnessworks_entryCount S16 l0A)) huX11_open_11 (hXS16 _ _ (hXS9 _ _ (hXS2 _ _ hl0A))).1 (fun cy => wAt_11 cy _ (hXS16 _ _ (hXS9 _ _ (hXS2 _ _ hl0A))).2) rfl 2 (by decide) (List.mem_of_getElem? (i := 10) rfl) rfl rfl dX11_open_65 ?_
          obtain ⟨i22, h⟩ := h
          have w23 := wf_REntry hWS16 (wf_Witnessworks_book hWS16 (hXS16 _ _ (hXS9 _ _ (hXS2 _ _ hl0A)))).2 (Nat.not_le.mp fun q => i22 (Or.inr q))
          refine wk_aaldEntry C (wf_Witnessworks_book hWS16 (hXS16 _ _ (hXS9 _ _ (hXS2 _ _ hl0A)))).2.1 (wf_Witnessworks_book hWS16 (hXS16 _ _ (hXS9 _ _ (hXS2 _ _ hl0A)))).2.2 i22 w23.1 dX11_open_68 ?_
          refine wk_iload C dX11_open_69 rfl ?_
          refine wk_iload_n C dX11_open_71 rfl rfl ?_
          refine wk_iload_n C dX11_open_72 rfl rfl ?_
          refine wk_callV C hR (As := [.int v1, .int l2I, .int l3I]) (cnt := 3) (tX3_begin (l := l) hWS16 w23.2 h) rfl (wkGoodV (List.mem_of_getElem? (i := 12) rfl) (List.mem_of_getElem? (i := 13) rfl) (List.mem_of_getElem? (i := 14) rfl) (List.mem_of_getElem? (i := 15) rfl) hbX11_open_X3_begin gdX3_begin) (Nat.le_trans (by decide : 0 + 1 ≤ 6) hd) (by decide) w23.2.1 (fun cy => wAt_3 cy _ w23.2.2) rfl ⟨by decide, by decide, by decide +kernel⟩ rfl rfl (Nat.le_of_ble_eq_true rfl) (Nat.zero_le _) (Nat.zero_le _) dX11_open_73 (fun v' S25 hp => ?_)
          obtain ⟨v24, rfl, h, hWS25, hXS25⟩ := hp
          refine wk_aload_n C dX11_open_76 rfl rfl ?_
          refine wk_bipush C (v := 111) dX11_open_77 (by decide) ?_
          refine wk_aload_n C dX11_open_79 rfl rfl ?_
          refine wk_get C (v := .int (gWitnessworks_entryCount S25 l0A)) huX11_open_11 (hXS25 _ _ (hXS16 _ _ (hXS9 _ _ (hXS2 _ _ hl0A)))).1 (fun cy => wAt_11 cy _ (hXS25 _ _ (hXS16 _ _ (hXS9 _ _ (hXS2 _ _ hl0A)))).2) rfl 2 (by decide) (List.mem_of_getElem? (i := 10) rfl) rfl rfl dX11_open_80 ?_
          refine wk_callV C hR (As := [.int (111 : Int32), .int (gWitnessworks_entryCount S25 l0A)]) (cnt := 2) (tX11_remember (l := l) hWS25 (hXS25 _ _ (hXS16 _ _ (hXS9 _ _ (hXS2 _ _ hl0A)))) h) rfl (wkGoodV (List.mem_of_getElem? (i := 16) rfl) (List.mem_of_getElem? (i := 17) rfl) (List.mem_of_getElem? (i := 18) rfl) (List.mem_of_getElem? (i := 7) rfl) hbX11_open_X11_remember gdX11_remember) (Nat.le_trans (by decide : 2 + 1 ≤ 6) hd) (by decide) (hXS25 _ _ (hXS16 _ _ (hXS9 _ _ (hXS2 _ _ hl0A)))).1 (fun cy => wAt_11 cy _ (hXS25 _ _ (hXS16 _ _ (hXS9 _ _ (hXS2 _ _ hl0A)))).2) rfl ⟨by decide, by decide, by decide +kernel⟩ rfl rfl (Nat.le_of_ble_eq_true rfl) (Nat.zero_le _) (Nat.zero_le _) dX11_open_83 (fun v' S30 hp => ?_)
          obtain ⟨v29, rfl, h, hWS30, hXS30⟩ := hp
          refine wk_aload_n C dX11_open_86 rfl rfl ?_
          refine wk_dup C dX11_open_87 rfl ?_
          refine wk_get C (v := .int (gWitnessworks_entryCount S30 l0A)) huX11_open_11 (hXS30 _ _ (hXS25 _ _ (hXS16 _ _ (hXS9 _ _ (hXS2 _ _ hl0A))))).1 (fun cy => wAt_11 cy _ (hXS30 _ _ (hXS25 _ _ (hXS16 _ _ (hXS9 _ _ (hXS2 _ _ hl0A))))).2) rfl 2 (by decide) (List.mem_of_getElem? (i := 10) rfl) rfl rfl dX11_open_88 ?_
          refine wk_iconst C (v := 1) dX11_open_91 (by decide) ?_
          refine wk_iadd C dX11_open_92 rfl ?_
          obtain ⟨S34, eS34, h⟩ := wkLt_some h
          refine wk_put C (S' := S34) huX11_open_11 (hXS30 _ _ (hXS25 _ _ (hXS16 _ _ (hXS9 _ _ (hXS2 _ _ hl0A))))).1 (fun cy => wAt_11 cy _ (hXS30 _ _ (hXS25 _ _ (hXS16 _ _ (hXS9 _ _ (hXS2 _ _ hl0A))))).2) rfl 2 (by decide) (List.mem_of_getElem? (i := 10) rfl) rfl tyX11_ok nmX11 rfl (ty := .int) rfl rfl rfl (by show 2 < 19; decide) (fun cy b => by rw [eS34]; exact wSt_11_2 cy _ (hXS30 _ _ (hXS25 _ _ (hXS16 _ _ (hXS9 _ _ (hXS2 _ _ hl0A))))).2 _ b) (by rw [eS34]) dX11_open_93 ?_
          have hWS34 : wkWF S34 := by rw [eS34]; exact hWS30
          have hXS34 : wkExt S30 S34 := by rw [eS34]; exact wkExt.rf
          refine wk_aload_n C dX11_open_96 rfl rfl ?_
          refine wk_get C (v := .int (gWitnessworks_entryCount S34 l0A)) huX11_open_11 (hXS34 _ _ (hXS30 _ _ (hXS25 _ _ (hXS16 _ _ (hXS9 _ _ (hXS2 _ _ hl0A)))))).1 (fun cy => wAt_11 cy _ (hXS34 _ _ (hXS30 _ _ (hXS25 _ _ (hXS16 _ _ (hXS9 _ _ (hXS2 _ _ hl0A)))))).2) rfl 2 (by decide) (List.mem_of_getElem? (i := 10) rfl) rfl rfl dX11_open_97 ?_
          refine wk_iconst C (v := 1) dX11_open_100 (by decide) ?_
          refine wk_isub C dX11_open_101 rfl ?_
          exact E _ _ _ _ _ _ (Nat.zero_le _) (Nat.zero_le _) dX11_open_102 ⟨((gWitnessworks_entryCount S34 l0A) - (1 : Int32)), rfl, h, hWS34, (wkExt.tr (wkExt.tr (wkExt.tr (wkExt.tr (wkExt.tr (wkExt.tr hE hXS2) hXS9) hXS16) hXS25) hXS30) hXS34)⟩
        · rw [if_neg c21] at h
          obtain ⟨t35a, t35b, h⟩ := h
          exact ET _ _ _ _ _ _ (90, 92, 94, "java/lang/IllegalStateException", "the book is full") (by decide +kernel) (Nat.le_of_ble_eq_true rfl) (Or.inl ⟨dX11_open_50, dX11_open_53, dX11_open_54, dX11_open_56, dX11_open_59⟩) ⟨h, hWS16, (wkExt.tr (wkExt.tr (wkExt.tr hE hXS2) hXS9) hXS16)⟩ t35a t35b
      · rw [if_pos c20] at h
        obtain ⟨t36a, t36b, h⟩ := h
        exact ET _ _ _ _ _ _ (79, 81, 83, "java/lang/IllegalArgumentException", "no such kind, size or bound") (by decide +kernel) (Nat.le_of_ble_eq_true rfl) (Or.inl ⟨dX11_open_31, dX11_open_34, dX11_open_35, dX11_open_37, dX11_open_40⟩) ⟨h, hWS16, (wkExt.tr (wkExt.tr (wkExt.tr hE hXS2) hXS9) hXS16)⟩ t36a t36b
def wvX11_wouldBeCarriedSo : List Cond := .code yX11_wouldBeCarriedSo cX11_wouldBeCarriedSo 2 (some .boolean) :: (([.fieldLink RX11 191 "Witnessworks$Entry" "origin" "I", .fieldLink RX11 10 "Witnessworks" "house" "LWitnessworks$House;", .fieldLink RX11 18 "Witnessworks" "book" "[LWitnessworks$Entry;", .fieldLink RX11 147 "Witnessworks$Entry" "kind" "I", .fieldLink RX11 30 "Witnessworks" "draft" "LWitnessworks$Entry;", .methodLink RX11 178 yX4_carriesOver, .instanceMethod yX4_carriesOver, .selects RX4 yX4_carriesOver yX4_carriesOver, .initialized RX4, .methodLink RX11 508 yX3_isSameQuestion, .instanceMethod yX3_isSameQuestion, .selects RX3 yX3_isSameQuestion yX3_isSameQuestion, .initialized RX3] : List Cond) ++ ((wsX30 ++ (wsX110)) ++ (wvX4_carriesOver ++ (wvX3_isSameQuestion))))
theorem huX11_wouldBeCarriedSo_3 : ∀ w ∈ u_ws RX3 TX3 17, w ∈ wvX11_wouldBeCarriedSo := fun w h => List.mem_cons_of_mem _ (List.mem_append_right _ (List.mem_append_left _ (List.mem_append_left _ h)))
theorem huX11_wouldBeCarriedSo_11 : ∀ w ∈ u_ws RX11 TX11 19, w ∈ wvX11_wouldBeCarriedSo := fun w h => List.mem_cons_of_mem _ (List.mem_append_right _ (List.mem_append_left _ (List.mem_append_right _ h)))
theorem hbX11_wouldBeCarriedSo_X4_carriesOver : ∀ w ∈ wvX4_carriesOver, w ∈ wvX11_wouldBeCarriedSo := fun w h => List.mem_cons_of_mem _ (List.mem_append_right _ (List.mem_append_right _ (List.mem_append_left _ h)))
theorem hbX11_wouldBeCarriedSo_X3_isSameQuestion : ∀ w ∈ wvX3_isSameQuestion, w ∈ wvX11_wouldBeCarriedSo := fun w h => List.mem_cons_of_mem _ (List.mem_append_right _ (List.mem_append_right _ (List.mem_append_right _ h)))
theorem gdX11_wouldBeCarriedSo : ∀ w ∈ wvX11_wouldBeCarriedSo, wkGd w := wkGdC rfl (wkGdA (wkGdL (by decide +kernel)) (wkGdA (wkGdA gdX3 gdX11) (wkGdA gdX4_carriesOver gdX3_isSameQuestion)))
def rX11_wouldBeCarriedSo (F : Nat) (l0A : Nat) (l1A : Nat) (S : wPS) (Φ : (Int32 → wPS → Prop)) : Prop :=
  if 0 ≤ (gEntry_origin S l1A) then (¬ ((gEntry_origin S l1A) < 0 ∨ S.len (wkAd (gWitnessworks_book S l0A)) ≤ ((gEntry_origin S l1A)).toNatClampNeg) ∧ rX4_carriesOver F (wkAd (gWitnessworks_house S l0A)) (wkAd (S.rA (wkAd (gWitnessworks_book S l0A)) ((gEntry_origin S l1A)).toNatClampNeg)) (gEntry_kind S l1A) (wkAd (gWitnessworks_draft S l0A)) S fun v4 S5 => if v4 = 0 then (Φ (0 : Int32) S5) else (rX3_isSameQuestion F (wkAd (gWitnessworks_draft S5 l0A)) l1A S5 fun v10 S11 => if v10 = 0 then (Φ (0 : Int32) S11) else (Φ (1 : Int32) S11))) else (Φ (0 : Int32) S)
set_option maxHeartbeats 4000000 in
set_option maxRecDepth 100000 in
theorem tX11_wouldBeCarriedSo {l : Launch} {g : wkG} {F : Nat}  {S : wPS} {l0A : Nat} {l1A : Nat} {Φ : (Int32 → wPS → Prop)} (hst : wkSta g) (hW : wkWF S) (hl0A : wkIs S l0A 11) (hl1A : wkIs S l1A 3) (h : rX11_wouldBeCarriedSo F l0A l1A S Φ) : wkMet l g yX11_wouldBeCarriedSo wvX11_wouldBeCarriedSo 5 0 0 [.ref l0A, .ref l1A] S (fun v' S'' => ∃ v : Int32, v' = some (.int v) ∧ Φ v S'' ∧ wkWF S'' ∧ wkExt S S'') := by
  refine wkMet_of (ret := (some .boolean)) (by decide) rfl (Nat.le_of_ble_eq_true rfl) (fun X hg C hR E => ?_)
  subst hg
  have hE : wkExt S S := wkExt.rf
  have hd : 5 ≤ 5 := Nat.le_refl _
  show wkGo l X 2 0 0 0 S [some (.ref l0A), some (.ref l1A)] []
  unfold rX11_wouldBeCarriedSo at h
  refine wk_aload_n C dX11_wouldBeCarriedSo_0 rfl rfl ?_
  refine wk_get C (v := .int (gEntry_origin S l1A)) huX11_wouldBeCarriedSo_3 hl1A.1 (fun cy => wAt_3 cy _ hl1A.2) rfl 5 (by decide) (List.mem_of_getElem? (i := 1) rfl) rfl rfl dX11_wouldBeCarriedSo_1 ?_
  refine wk_if_ge C (tgt := 9) dX11_wouldBeCarriedSo_4 (by decide) (fun c1 => ?_) (fun c1 => ?_)
  · rw [if_pos c1] at h
    refine wk_aload_n C dX11_wouldBeCarriedSo_9 rfl rfl ?_
    refine wk_get C huX11_wouldBeCarriedSo_11 hl0A.1 (fun cy => wAt_11 cy _ hl0A.2) rfl 0 (by decide) (List.mem_of_getElem? (i := 2) rfl) rfl (congrArg some (congrArg va_rf (wf_Witnessworks_house hW hl0A).1)) dX11_wouldBeCarriedSo_10 ?_
    refine wk_aload_n C dX11_wouldBeCarriedSo_13 rfl rfl ?_
    refine wk_get C huX11_wouldBeCarriedSo_11 hl0A.1 (fun cy => wAt_11 cy _ hl0A.2) rfl 1 (by decide) (List.mem_of_getElem? (i := 3) rfl) rfl (congrArg some (congrArg va_rf (wf_Witnessworks_book hW hl0A).1)) dX11_wouldBeCarriedSo_14 ?_
    refine wk_aload_n C dX11_wouldBeCarriedSo_17 rfl rfl ?_
    refine wk_get C (v := .int (gEntry_origin S l1A)) huX11_wouldBeCarriedSo_3 hl1A.1 (fun cy => wAt_3 cy _ hl1A.2) rfl 5 (by decide) (List.mem_of_getElem? (i := 1) rfl) rfl rfl dX11_wouldBeCarriedSo_18 ?_
    obtain ⟨i2, h⟩ := h
    have w3 := wf_REntry hW (wf_Witnessworks_book hW hl0A).2 (Nat.not_le.mp fun q => i2 (Or.inr q))
    refine wk_aaldEntry C (wf_Witnessworks_book hW hl0A).2.1 (wf_Witnessworks_book hW hl0A).2.2 i2 w3.1 dX11_wouldBeCarriedSo_21 ?_
    refine wk_aload_n C dX11_wouldBeCarriedSo_22 rfl rfl ?_
    refine wk_get C (v := .int (gEntry_kind S l1A)) huX11_wouldBeCarriedSo_3 hl1A.1 (fun cy => wAt_3 cy _ hl1A.2) rfl 0 (by decide) (List.mem_of_getElem? (i := 4) rfl) rfl rfl dX11_wouldBeCarriedSo_23 ?_
    refine wk_aload_n C dX11_wouldBeCarriedSo_26 rfl rfl ?_
    refine wk_get C huX11_wouldBeCarriedSo_11 hl0A.1 (fun cy => wAt_11 cy _ hl0A.2) rfl 5 (by decide) (List.mem_of_getElem? (i := 5) rfl) rfl (congrArg some (congrArg va_rf (wf_Witnessworks_draft hW hl0A).1)) dX11_wouldBeCarriedSo_27 ?_
    refine wk_callV C hR (As := [.ref (wkAd (S.rA (wkAd (gWitnessworks_book S l0A)) ((gEntry_origin S l1A)).toNatClampNeg)), .int (gEntry_kind S l1A), .ref (wkAd (gWitnessworks_draft S l0A))]) (cnt := 3) (tX4_carriesOver (l := l) hst hW (wf_Witnessworks_house hW hl0A).2 w3.2 (wf_Witnessworks_draft hW hl0A).2 h) rfl (wkGoodV (List.mem_of_getElem? (i := 6) rfl) (List.mem_of_getElem? (i := 7) rfl) (List.mem_of_getElem? (i := 8) rfl) (List.mem_of_getElem? (i := 9) rfl) hbX11_wouldBeCarriedSo_X4_carriesOver gdX4_carriesOver) (Nat.le_trans (by decide : 4 + 1 ≤ 5) hd) (by decide) (wf_Witnessworks_house hW hl0A).2.1 (fun cy => wAt_4 cy _ (wf_Witnessworks_house hW hl0A).2.2) rfl ⟨by decide, by decide, by decide +kernel⟩ rfl rfl (Nat.le_of_ble_eq_true rfl) (Nat.le_refl 0) (Nat.le_refl 0) dX11_wouldBeCarriedSo_30 (fun v' S5 hp => ?_)
    obtain ⟨v4, rfl, h, hWS5, hXS5⟩ := hp
    refine wk_if_eq C (tgt := 51) dX11_wouldBeCarriedSo_33 (by decide) (fun c9 => ?_) (fun c9 => ?_)
    · rw [if_pos c9] at h
      refine wk_iconst C (v := 0) dX11_wouldBeCarriedSo_51 (by decide) ?_
      exact E _ _ _ _ _ _ (Nat.le_refl 0) (Nat.le_refl 0) dX11_wouldBeCarriedSo_52 rfl ⟨(0 : Int32), rfl, h, hWS5, (wkExt.tr hE hXS5)⟩
    · rw [if_neg c9] at h
      refine wk_aload_n C dX11_wouldBeCarriedSo_36 rfl rfl ?_
      refine wk_get C huX11_wouldBeCarriedSo_11 (hXS5 _ _ hl0A).1 (fun cy => wAt_11 cy _ (hXS5 _ _ hl0A).2) rfl 5 (by decide) (List.mem_of_getElem? (i := 5) rfl) rfl (congrArg some (congrArg va_rf (wf_Witnessworks_draft hWS5 (hXS5 _ _ hl0A)).1)) dX11_wouldBeCarriedSo_37 ?_
      refine wk_aload_n C dX11_wouldBeCarriedSo_40 rfl rfl ?_
      refine wk_callV C hR (As := [.ref l1A]) (cnt := 1) (tX3_isSameQuestion (l := l) hWS5 (wf_Witnessworks_draft hWS5 (hXS5 _ _ hl0A)).2 (hXS5 _ _ hl1A) h) rfl (wkGoodV (List.mem_of_getElem? (i := 10) rfl) (List.mem_of_getElem? (i := 11) rfl) (List.mem_of_getElem? (i := 12) rfl) (List.mem_of_getElem? (i := 13) rfl) hbX11_wouldBeCarriedSo_X3_isSameQuestion gdX3_isSameQuestion) (Nat.le_trans (by decide : 0 + 1 ≤ 5) hd) (by decide) (wf_Witnessworks_draft hWS5 (hXS5 _ _ hl0A)).2.1 (fun cy => wAt_3 cy _ (wf_Witnessworks_draft hWS5 (hXS5 _ _ hl0A)).2.2) rfl ⟨by decide, by decide, by decide +kernel⟩ rfl rfl (Nat.le_of_ble_eq_true rfl) (Nat.le_refl 0) (Nat.le_refl 0) dX11_wouldBeCarriedSo_41 (fun v' S11 hp => ?_)
      obtain ⟨v10, rfl, h, hWS11, hXS11⟩ := hp
      refine wk_if_eq C (tgt := 51) dX11_wouldBeCarriedSo_44 (by decide) (fun c15 => ?_) (fun c15 => ?_)
      · rw [if_pos c15] at h
        refine wk_iconst C (v := 0) dX11_wouldBeCarriedSo_51 (by decide) ?_
        exact E _ _ _ _ _ _ (Nat.le_refl 0) (Nat.le_refl 0) dX11_wouldBeCarriedSo_52 rfl ⟨(0 : Int32), rfl, h, hWS11, (wkExt.tr (wkExt.tr hE hXS5) hXS11)⟩
      · rw [if_neg c15] at h
        refine wk_iconst C (v := 1) dX11_wouldBeCarriedSo_47 (by decide) ?_
        refine wk_goto C (tgt := 52) dX11_wouldBeCarriedSo_48 (by decide) ?_
        exact E _ _ _ _ _ _ (Nat.le_refl 0) (Nat.le_refl 0) dX11_wouldBeCarriedSo_52 rfl ⟨(1 : Int32), rfl, h, hWS11, (wkExt.tr (wkExt.tr hE hXS5) hXS11)⟩
  · rw [if_neg c1] at h
    refine wk_iconst C (v := 0) dX11_wouldBeCarriedSo_7 (by decide) ?_
    exact E _ _ _ _ _ _ (Nat.le_refl 0) (Nat.le_refl 0) dX11_wouldBeCarriedSo_8 rfl ⟨(0 : Int32), rfl, h, hW, hE⟩
def wvX4_judge : List Cond := .code yX4_judge cX4_judge 4 (some .int) :: (([.fieldLink RX4 75 "Witnessworks$Entry" "kind" "I", .fieldLink RX4 12 "Witnessworks$House" "networks" "LWitnessworks$Networks;", .methodLink RX4 126 yX7_judgeNodes, .instanceMethod yX7_judgeNodes, .selects RX7 yX7_judgeNodes yX7_judgeNodes, .initialized RX7, .methodLink RX4 122 yX7_judgePairing, .instanceMethod yX7_judgePairing, .selects RX7 yX7_judgePairing yX7_judgePairing, .methodLink RX4 132 yX7_judgeBar, .instanceMethod yX7_judgeBar, .selects RX7 yX7_judgeBar yX7_judgeBar, .methodLink RX4 129 yX7_judgeFlow, .instanceMethod yX7_judgeFlow, .selects RX7 yX7_judgeFlow yX7_judgeFlow, .fieldLink RX4 21 "Witnessworks$House" "drawings" "LWitnessworks$Drawings;", .methodLink RX4 138 yX2_judgeCore, .instanceMethod yX2_judgeCore, .selects RX2 yX2_judgeCore yX2_judgeCore, .initialized RX2, .methodLink RX4 135 yX2_judgeDrawing, .instanceMethod yX2_judgeDrawing, .selects RX2 yX2_judgeDrawing yX2_judgeDrawing, .fieldLink RX4 28 "Witnessworks$House" "inequalities" "LWitnessworks$Inequalities;", .methodLink RX4 144 yX5_judgeWeights, .instanceMethod yX5_judgeWeights, .selects RX5 yX5_judgeWeights yX5_judgeWeights, .initialized RX5, .methodLink RX4 141 yX5_judgeUnknowns, .instanceMethod yX5_judgeUnknowns, .selects RX5 yX5_judgeUnknowns yX5_judgeUnknowns, .fieldLink RX4 35 "Witnessworks$House" "clauses" "LWitnessworks$Clauses;", .methodLink RX4 150 yX1_judgeTree, .instanceMethod yX1_judgeTree, .selects RX1 yX1_judgeTree yX1_judgeTree, .initialized RX1, .methodLink RX4 147 yX1_judgeTruths, .instanceMethod yX1_judgeTruths, .selects RX1 yX1_judgeTruths yX1_judgeTruths, .fieldLink RX4 42 "Witnessworks$House" "numbers" "LWitnessworks$Numbers;", .methodLink RX4 154 yX8_judgeModulus, .instanceMethod yX8_judgeModulus, .selects RX8 yX8_judgeModulus yX8_judgeModulus, .initialized RX8, .methodLink RX4 153 yX8_judgeUnknowns, .instanceMethod yX8_judgeUnknowns, .selects RX8 yX8_judgeUnknowns yX8_judgeUnknowns, .methodLink RX4 160 yX8_judgeProduct, .instanceMethod yX8_judgeProduct, .selects RX8 yX8_judgeProduct yX8_judgeProduct, .methodLink RX4 157 yX8_judgePrime, .instanceMethod yX8_judgePrime, .selects RX8 yX8_judgePrime yX8_judgePrime, .methodLink RX4 166 yX8_judgeSigns, .instanceMethod yX8_judgeSigns, .selects RX8 yX8_judgeSigns yX8_judgeSigns, .methodLink RX4 163 yX8_judgeParts, .instanceMethod yX8_judgeParts, .selects RX8 yX8_judgeParts yX8_judgeParts, .fieldLink RX4 49 "Witnessworks$House" "words" "LWitnessworks$Words;", .methodLink RX4 172 yX10_judgeRows, .instanceMethod yX10_judgeRows, .selects RX10 yX10_judgeRows yX10_judgeRows, .initialized RX10, .methodLink RX4 169 yX10_judgeItems, .instanceMethod yX10_judgeItems, .selects RX10 yX10_judgeItems yX10_judgeItems, .methodLink RX4 178 yX10_judgeClosure, .instanceMethod yX10_judgeClosure, .selects RX10 yX10_judgeClosure yX10_judgeClosure, .methodLink RX4 175 yX10_judgeSteps, .instanceMethod yX10_judgeSteps, .selects RX10 yX10_judgeSteps yX10_judgeSteps, .fieldLink RX4 56 "Witnessworks$House" "machines" "LWitnessworks$Machines;", .methodLink RX4 184 yX6_judgeLetters, .instanceMethod yX6_judgeLetters, .selects RX6 yX6_judgeLetters yX6_judgeLetters, .initialized RX6, .methodLink RX4 181 yX6_judgeLikeness, .instanceMethod yX6_judgeLikeness, .selects RX6 yX6_judgeLikeness yX6_judgeLikeness, .methodLink RX4 187 yX6_judgeGame, .instanceMethod yX6_judgeGame, .selects RX6 yX6_judgeGame yX6_judgeGame] : List Cond) ++ ((wsX30 ++ (wsX40)) ++ (wvX7_judgeNodes ++ (wvX7_judgePairing ++ (wvX7_judgeBar ++ (wvX7_judgeFlow ++ (wvX2_judgeCore ++ (wvX2_judgeDrawing ++ (wvX5_judgeWeights ++ (wvX5_judgeUnknowns ++ (wvX1_judgeTree ++ (wvX1_judgeTruths ++ (wvX8_judgeModulus ++ (wvX8_judgeUnknowns ++ (wvX8_judgeProduct ++ (wvX8_judgePrime ++ (wvX8_judgeSigns ++ (wvX8_judgeParts ++ (wvX10_judgeRows ++ (wvX10_judgeItems ++ (wvX10_judgeClosure ++ (wvX10_judgeSteps ++ (wvX6_judgeLetters ++ (wvX6_judgeLikeness ++ (wvX6_judgeGame)))))))))))))))))))))))))
theorem huX4_judge_3 : ∀ w ∈ u_ws RX3 TX3 17, w ∈ wvX4_judge := fun w h => List.mem_cons_of_mem _ (List.mem_append_right _ (List.mem_append_left _ (List.mem_append_left _ h)))
theorem huX4_judge_4 : ∀ w ∈ u_ws RX4 TX4 8, w ∈ wvX4_judge := fun w h => List.mem_cons_of_mem _ (List.mem_append_right _ (List.mem_append_left _ (List.mem_append_right _ h)))
theorem hbX4_judge_X7_judgeNodes : ∀ w ∈ wvX7_judgeNodes, w ∈ wvX4_judge := fun w h => List.mem_cons_of_mem _ (List.mem_append_right _ (List.mem_append_right _ (List.mem_append_left _ h)))
theorem hbX4_judge_X7_judgePairing : ∀ w ∈ wvX7_judgePairing, w ∈ wvX4_judge := fun w h => List.mem_cons_of_mem _ (List.mem_append_right _ (List.mem_append_right _ (List.mem_append_right _ (List.mem_append_left _ h))))
theorem hbX4_judge_X7_judgeBar : ∀ w ∈ wvX7_judgeBar, w ∈ wvX4_judge := fun w h => List.mem_cons_of_mem _ (List.mem_append_right _ (List.mem_append_right _ (List.mem_append_right _ (List.mem_append_right _ (List.mem_append_left _ h)))))
theorem hbX4_judge_X7_judgeFlow : ∀ w ∈ wvX7_judgeFlow, w ∈ wvX4_judge := fun w h => List.mem_cons_of_mem _ (List.mem_append_right _ (List.mem_append_right _ (List.mem_append_right _ (List.mem_append_right _ (List.mem_append_right _ (List.mem_append_left _ h))))))
theorem hbX4_judge_X2_judgeCore : ∀ w ∈ wvX2_judgeCore, w ∈ wvX4_judge := fun w h => List.mem_cons_of_mem _ (List.mem_append_right _ (List.mem_append_right _ (List.mem_append_right _ (List.mem_append_right _ (List.mem_append_right _ (List.mem_append_right _ (List.mem_append_left _ h)))))))
theorem hbX4_judge_X2_judgeDrawing : ∀ w ∈ wvX2_judgeDrawing, w ∈ wvX4_judge := fun w h => List.mem_cons_of_mem _ (List.mem_append_right _ (List.mem_append_right _ (List.mem_append_right _ (List.mem_append_right _ (List.mem_append_right _ (List.mem_append_right _ (List.mem_append_right _ (List.mem_append_left _ h))))))))
theorem hbX4_judge_X5_judgeWeights : ∀ w ∈ wvX5_judgeWeights, w ∈ wvX4_judge := fun w h => List.mem_cons_of_mem _ (List.mem_append_right _ (List.mem_append_right _ (List.mem_append_right _ (List.mem_append_right _ (List.mem_append_right _ (List.mem_append_right _ (List.mem_append_right _ (List.mem_append_right _ (List.mem_append_left _ h)))))))))
theorem hbX4_judge_X5_judgeUnknowns : ∀ w ∈ wvX5_judgeUnknowns, w ∈ wvX4_judge := fun w h => List.mem_cons_of_mem _ (List.mem_append_right _ (List.mem_append_right _ (List.mem_append_right _ (List.mem_append_right _ (List.mem_append_right _ (List.mem_append_right _ (List.mem_append_right _ (List.mem_append_right _ (List.mem_append_right _ (List.mem_append_left _ h))))))))))
theorem hbX4_judge_X1_judgeTree : ∀ w ∈ wvX1_judgeTree, w ∈ wvX4_judge := fun w h => List.mem_cons_of_mem _ (List.mem_append_right _ (List.mem_append_right _ (List.mem_append_right _ (List.mem_append_right _ (List.mem_append_right _ (List.mem_append_right _ (List.mem_append_right _ (List.mem_append_right _ (List.mem_append_right _ (List.mem_append_right _ (List.mem_append_left _ h)))))))))))
theorem hbX4_judge_X1_judgeTruths : ∀ w ∈ wvX1_judgeTruths, w ∈ wvX4_judge := fun w h => List.mem_cons_of_mem _ (List.mem_append_right _ (List.mem_append_right _ (List.mem_append_right _ (List.mem_append_right _ (List.mem_append_right _ (List.mem_append_right _ (List.mem_append_right _ (List.mem_append_right _ (List.mem_append_right _ (List.mem_append_right _ (List.mem_append_right _ (List.mem_append_left _ h))))))))))))
theorem hbX4_judge_X8_judgeModulus : ∀ w ∈ wvX8_judgeModulus, w ∈ wvX4_judge := fun w h => List.mem_cons_of_mem _ (List.mem_append_right _ (List.mem_append_right _ (List.mem_append_right _ (List.mem_append_right _ (List.mem_append_right _ (List.mem_append_right _ (List.mem_append_right _ (List.mem_append_right _ (List.mem_append_right _ (List.mem_append_right _ (List.mem_append_right _ (List.mem_append_right _ (List.mem_append_left _ h)))))))))))))
theorem hbX4_judge_X8_judgeUnknowns : ∀ w ∈ wvX8_judgeUnknowns, w ∈ wvX4_judge := fun w h => List.mem_cons_of_mem _ (List.mem_append_right _ (List.mem_append_right _ (List.mem_append_right _ (List.mem_append_right _ (List.mem_append_right _ (List.mem_append_right _ (List.mem_append_right _ (List.mem_append_right _ (List.mem_append_right _ (List.mem_append_right _ (List.mem_append_right _ (List.mem_append_right _ (List.mem_append_right _ (List.mem_append_left _ h))))))))))))))
theorem hbX4_judge_X8_judgeProduct : ∀ w ∈ wvX8_judgeProduct, w ∈ wvX4_judge := fun w h => List.mem_cons_of_mem _ (List.mem_append_right _ (List.mem_append_right _ (List.mem_append_right _ (List.mem_append_right _ (List.mem_append_right _ (List.mem_append_right _ (List.mem_append_right _ (List.mem_append_right _ (List.mem_append_right _ (List.mem_append_right _ (List.mem_append_right _ (List.mem_append_right _ (List.mem_append_right _ (List.mem_append_right _ (List.mem_append_left _ h)))))))))))))))
theorem hbX4_judge_X8_judgePrime : ∀ w ∈ wvX8_judgePrime, w ∈ wvX4_judge := fun w h => List.mem_cons_of_mem _ (List.mem_append_right _ (List.mem_append_right _ (List.mem_append_right _ (List.mem_append_right _ (List.mem_append_right _ (List.mem_append_right _ (List.mem_append_right _ (List.mem_append_right _ (List.mem_append_right _ (List.mem_append_right _ (List.mem_append_right _ (List.mem_append_right _ (List.mem_append_right _ (List.mem_append_right _ (List.mem_append_right _ (List.mem_append_left _ h))))))))))))))))
theorem hbX4_judge_X8_judgeSigns : ∀ w ∈ wvX8_judgeSigns, w ∈ wvX4_judge := fun w h => List.mem_cons_of_mem _ (List.mem_append_right _ (List.mem_append_right _ (List.mem_append_right _ (List.mem_append_right _ (List.mem_append_right _ (List.mem_append_right _ (List.mem_append_right _ (List.mem_append_right _ (List.mem_append_right _ (List.mem_append_right _ (List.mem_append_right _ (List.mem_append_right _ (List.mem_append_right _ (List.mem_append_right _ (List.mem_append_right _ (List.mem_append_right _ (List.mem_append_left _ h)))))))))))))))))
theorem hbX4_judge_X8_judgeParts : ∀ w ∈ wvX8_judgeParts, w ∈ wvX4_judge := fun w h => List.mem_cons_of_mem _ (List.mem_append_right _ (List.mem_append_right _ (List.mem_append_right _ (List.mem_append_right _ (List.mem_append_right _ (List.mem_append_right _ (List.mem_append_right _ (List.mem_append_right _ (List.mem_append_right _ (List.mem_append_right _ (List.mem_append_right _ (List.mem_append_right _ (List.mem_append_right _ (List.mem_append_right _ (List.mem_append_right _ (List.mem_append_right _ (List.mem_append_right _ (List.mem_append_left _ h))))))))))))))))))
theorem hbX4_judge_X10_judgeRows : ∀ w ∈ wvX10_judgeRows, w ∈ wvX4_judge := fun w h => List.mem_cons_of_mem _ (List.mem_append_right _ (List.mem_append_right _ (List.mem_append_right _ (List.mem_append_right _ (List.mem_append_right _ (List.mem_append_right _ (List.mem_append_right _ (List.mem_append_right _ (List.mem_append_right _ (List.mem_append_right _ (List.mem_append_right _ (List.mem_append_right _ (List.mem_append_right _ (List.mem_append_right _ (List.mem_append_right _ (List.mem_append_right _ (List.mem_append_right _ (List.mem_append_right _ (List.mem_append_left _ h)))))))))))))))))))
theorem hbX4_judge_X10_judgeItems : ∀ w ∈ wvX10_judgeItems, w ∈ wvX4_judge := fun w h => List.mem_cons_of_mem _ (List.mem_append_right _ (List.mem_append_right _ (List.mem_append_right _ (List.mem_append_right _ (List.mem_append_right _ (List.mem_append_right _ (List.mem_append_right _ (List.mem_append_right _ (List.mem_append_right _ (List.mem_append_right _ (List.mem_append_right _ (List.mem_append_right _ (List.mem_append_right _ (List.mem_append_right _ (List.mem_append_right _ (List.mem_append_right _ (List.mem_append_right _ (List.mem_append_right _ (List.mem_append_right _ (List.mem_append_left _ h))))))))))))))))))))
theorem hbX4_judge_X10_judgeClosure : ∀ w ∈ wvX10_judgeClosure, w ∈ wvX4_judge := fun w h => List.mem_cons_of_mem _ (List.mem_append_right _ (List.mem_append_right _ (List.mem_append_right _ (List.mem_append_right _ (List.mem_append_right _ (List.mem_append_right _ (List.mem_append_right _ (List.mem_append_right _ (List.mem_append_right _ (List.mem_append_right _ (List.mem_append_right _ (List.mem_append_right _ (List.mem_append_right _ (List.mem_append_right _ (List.mem_append_right _ (List.mem_append_right _ (List.mem_append_right _ (List.mem_append_right _ (List.mem_append_right _ (List.mem_append_right _ (List.mem_append_left _ h)))))))))))))))))))))
theorem hbX4_judge_X10_judgeSteps : ∀ w ∈ wvX10_judgeSteps, w ∈ wvX4_judge := fun w h => List.mem_cons_of_mem _ (List.mem_append_right _ (List.mem_append_right _ (List.mem_append_right _ (List.mem_append_right _ (List.mem_append_right _ (List.mem_append_right _ (List.mem_append_right _ (List.mem_append_right _ (List.mem_append_right _ (List.mem_append_right _ (List.mem_append_right _ (List.mem_append_right _ (List.mem_append_right _ (List.mem_append_right _ (List.mem_append_right _ (List.mem_append_right _ (List.mem_append_right _ (List.mem_append_right _ (List.mem_append_right _ (List.mem_append_right _ (List.mem_append_right _ (List.mem_append_left _ h))))))))))))))))))))))
theorem hbX4_judge_X6_judgeLetters : ∀ w ∈ wvX6_judgeLetters, w ∈ wvX4_judge := fun w h => List.mem_cons_of_mem _ (List.mem_append_right _ (List.mem_append_right _ (List.mem_append_right _ (List.mem_append_right _ (List.mem_append_right _ (List.mem_append_right _ (List.mem_append_right _ (List.mem_append_right _ (List.mem_append_right _ (List.mem_append_right _ (List.mem_append_right _ (List.mem_append_right _ (List.mem_append_right _ (List.mem_append_right _ (List.mem_append_right _ (List.mem_append_right _ (List.mem_append_right _ (List.mem_append_right _ (List.mem_append_right _ (List.mem_append_right _ (List.mem_append_right _ (List.mem_append_right _ (List.mem_append_left _ h)))))))))))))))))))))))
theorem hbX4_judge_X6_judgeLikeness : ∀ w ∈ wvX6_judgeLikeness, w ∈ wvX4_judge := fun w h => List.mem_cons_of_mem _ (List.mem_append_right _ (List.mem_append_right _ (List.mem_append_right _ (List.mem_append_right _ (List.mem_append_right _ (List.mem_append_right _ (List.mem_append_right _ (List.mem_append_right _ (List.mem_append_right _ (List.mem_append_right _ (List.mem_append_right _ (List.mem_append_right _ (List.mem_append_right _ (List.mem_append_right _ (List.mem_append_right _ (List.mem_append_right _ (List.mem_append_right _ (List.mem_append_right _ (List.mem_append_right _ (List.mem_append_right _ (List.mem_append_right _ (List.mem_append_right _ (List.mem_append_right _ (List.mem_append_left _ h))))))))))))))))))))))))
theorem hbX4_judge_X6_judgeGame : ∀ w ∈ wvX6_judgeGame, w ∈ wvX4_judge := fun w h => List.mem_cons_of_mem _ (List.mem_append_right _ (List.mem_append_right _ (List.mem_append_right _ (List.mem_append_right _ (List.mem_append_right _ (List.mem_append_right _ (List.mem_append_right _ (List.mem_append_right _ (List.mem_append_right _ (List.mem_append_right _ (List.mem_append_right _ (List.mem_append_right _ (List.mem_append_right _ (List.mem_append_right _ (List.mem_append_right _ (List.mem_append_right _ (List.mem_append_right _ (List.mem_append_right _ (List.mem_append_right _ (List.mem_append_right _ (List.mem_append_right _ (List.mem_append_right _ (List.mem_append_right _ (List.mem_append_right _ h))))))))))))))))))))))))
theorem gdX4_judge : ∀ w ∈ wvX4_judge, wkGd w := wkGdC rfl (wkGdA (wkGdL (by decide +kernel)) (wkGdA (wkGdA gdX3 gdX4) (wkGdA gdX7_judgeNodes (wkGdA gdX7_judgePairing (wkGdA gdX7_judgeBar (wkGdA gdX7_judgeFlow (wkGdA gdX2_judgeCore (wkGdA gdX2_judgeDrawing (wkGdA gdX5_judgeWeights (wkGdA gdX5_judgeUnknowns (wkGdA gdX1_judgeTree (wkGdA gdX1_judgeTruths (wkGdA gdX8_judgeModulus (wkGdA gdX8_judgeUnknowns (wkGdA gdX8_judgeProduct (wkGdA gdX8_judgePrime (wkGdA gdX8_judgeSigns (wkGdA gdX8_judgeParts (wkGdA gdX10_judgeRows (wkGdA gdX10_judgeItems (wkGdA gdX10_judgeClosure (wkGdA gdX10_judgeSteps (wkGdA gdX6_judgeLetters (wkGdA gdX6_judgeLikeness gdX6_judgeGame))))))))))))))))))))))))
def rX4_judge (F : Nat) (l0A : Nat) (l1A : Nat) (l2A : Nat) (l3I : Int32) (S : wPS) (Φ : (Int32 → wPS → Prop)) : Prop :=
  if (gEntry_kind S l1A) = 0 then (if l3I = 0 then (rX7_judgeNodes F (wkAd (gHouse_networks S l0A)) l1A l2A S fun v4 S5 => Φ v4 S5) else (rX7_judgePairing F (wkAd (gHouse_networks S l0A)) l1A l2A S fun v9 S10 => Φ v9 S10)) else if (gEntry_kind S l1A) = 1 then (if l3I = 0 then (rX7_judgeBar F (wkAd (gHouse_networks S l0A)) l1A l2A S fun v16 S17 => Φ v16 S17) else (rX7_judgeFlow F (wkAd (gHouse_networks S l0A)) l1A l2A S fun v21 S22 => Φ v21 S22)) else if (gEntry_kind S l1A) = 2 then (if l3I = 0 then (rX2_judgeCore F (wkAd (gHouse_drawings S l0A)) l1A l2A S fun v28 S29 => Φ v28 S29) else (rX2_judgeDrawing F (wkAd (gHouse_drawings S l0A)) l1A l2A S fun v33 S34 => Φ v33 S34)) else if (gEntry_kind S l1A) = 3 then (if l3I = 0 then (rX5_judgeWeights F (wkAd (gHouse_inequalities S l0A)) l1A l2A S fun v40 S41 => Φ v40 S41) else (rX5_judgeUnknowns F (wkAd (gHouse_inequalities S l0A)) l1A l2A S fun v45 S46 => Φ v45 S46)) else if (gEntry_kind S l1A) = 4 then (if l3I = 0 then (rX1_judgeTree F (wkAd (gHouse_clauses S l0A)) l1A l2A S fun v52 S53 => Φ v52 S53) else (rX1_judgeTruths F (wkAd (gHouse_clauses S l0A)) l1A l2A S fun v57 S58 => Φ v57 S58)) else if (gEntry_kind S l1A) = 5 then (if l3I = 0 then (rX8_judgeModulus F (wkAd (gHouse_numbers S l0A)) l1A l2A S fun v64 S65 => Φ v64 S65) else (rX8_judgeUnknowns F (wkAd (gHouse_numbers S l0A)) l1A l2A S fun v69 S70 => Φ v69 S70)) else if (gEntry_kind S l1A) = 6 then (if l3I = 0 then (rX8_judgeProduct F (wkAd (gHouse_numbers S l0A)) l1A l2A S fun v76 S77 => Φ v76 S77) else (rX8_judgePrime F (wkAd (gHouse_numbers S l0A)) l1A l2A S fun v81 S82 => Φ v81 S82)) else if (gEntry_kind S l1A) = 7 then (if l3I = 0 then (rX8_judgeSigns F (wkAd (gHouse_numbers S l0A)) l1A l2A S fun v88 S89 => Φ v88 S89) else (rX8_judgeParts F (wkAd (gHouse_numbers S l0A)) l1A l2A S fun v93 S94 => Φ v93 S94)) else if (gEntry_kind S l1A) = 8 then (if l3I = 0 then (rX10_judgeRows F (wkAd (gHouse_words S l0A)) l1A l2A S fun v100 S101 => Φ v100 S101) else (rX10_judgeItems F (wkAd (gHouse_words S l0A)) l1A l2A S fun v105 S106 => Φ v105 S106)) else if (gEntry_kind S l1A) = 9 then (if l3I = 0 then (rX10_judgeClosure F (wkAd (gHouse_words S l0A)) l1A l2A S fun v112 S113 => Φ v112 S113) else (rX10_judgeSteps F (wkAd (gHouse_words S l0A)) l1A l2A S fun v117 S118 => Φ v117 S118)) else if (gEntry_kind S l1A) = 10 then (if l3I = 0 then (rX6_judgeLetters F (wkAd (gHouse_machines S l0A)) l1A l2A S fun v124 S125 => Φ v124 S125) else (rX6_judgeLikeness F (wkAd (gHouse_machines S l0A)) l1A l2A S fun v129 S130 => Φ v129 S130)) else (if l3I = 0 then (rX6_judgeGame F (wkAd (gHouse_machines S l0A)) l1A l2A (1 : Int32) S fun v135 S136 => Φ v135 S136) else (rX6_judgeGame F (wkAd (gHouse_machines S l0A)) l1A l2A (0 : Int32) S fun v140 S141 => Φ v140 S141))
set_option maxHeartbeats 4000000 in
set_option maxRecDepth 100000 in
theorem tX4_judge {l : Launch} {g : wkG} {F : Nat}  {S : wPS} {l0A : Nat} {l1A : Nat} {l2A : Nat} {l3I : Int32} {Φ : (Int32 → wPS → Prop)} (hW : wkWF S) (hl0A : wkIs S l0A 4) (hl1A : wkIs S l1A 3) (hl2A : wkIs S l2A 9) (h : rX4_judge F l0A l1A l2A l3I S Φ) : wkMet l g yX4_judge wvX4_judge 53 0 0 [.ref l0A, .ref l1A, .ref l2A, .int l3I] S (fun v' S'' => ∃ v : Int32, v' = some (.int v) ∧ Φ v S'' ∧ wkWF S'' ∧ wkExt S S'') := by
  refine wkMet_of (ret := (some .int)) (by decide) rfl (Nat.le_of_ble_eq_true rfl) (fun X hg C hR E => ?_)
  subst hg
  have hE : wkExt S S := wkExt.rf
  have hd : 53 ≤ 53 := Nat.le_refl _
  show wkGo l X 4 0 0 0 S [some (.ref l0A), some (.ref l1A), some (.ref l2A), some (.int l3I)] []
  unfold rX4_judge at h
  refine wk_aload_n C dX4_judge_0 rfl rfl ?_
  refine wk_get C (v := .int (gEntry_kind S l1A)) huX4_judge_3 hl1A.1 (fun cy => wAt_3 cy _ hl1A.2) rfl 0 (by decide) (List.mem_of_getElem? (i := 1) rfl) rfl rfl dX4_judge_1 ?_
  by_cases c2 : (gEntry_kind S l1A) = 0
  · rw [if_pos c2] at h
    rw [c2]
    refine wk_tabIn C (tgt := 64) (off := 60) dX4_judge_4 (by decide) (by decide) (by decide) (by decide) ?_
    refine wk_iload_n C dX4_judge_64 rfl rfl ?_
    refine wk_if_eq C (tgt := 80) dX4_judge_65 (by decide) (fun c3 => ?_) (fun c3 => ?_)
    · rw [if_pos c3] at h
      refine wk_aload_n C dX4_judge_80 rfl rfl ?_
      refine wk_get C huX4_judge_4 hl0A.1 (fun cy => wAt_4 cy _ hl0A.2) rfl 0 (by decide) (List.mem_of_getElem? (i := 2) rfl) rfl (congrArg some (congrArg va_rf (wf_House_networks hW hl0A).1)) dX4_judge_81 ?_
      refine wk_aload_n C dX4_judge_84 rfl rfl ?_
      refine wk_aload_n C dX4_judge_85 rfl rfl ?_
      refine wk_callV C hR (As := [.ref l1A, .ref l2A]) (cnt := 2) (tX7_judgeNodes (l := l) hW (wf_House_networks hW hl0A).2 hl1A hl2A h) rfl (wkGoodV (List.mem_of_getElem? (i := 3) rfl) (List.mem_of_getElem? (i := 4) rfl) (List.mem_of_getElem? (i := 5) rfl) (List.mem_of_getElem? (i := 6) rfl) hbX4_judge_X7_judgeNodes gdX7_judgeNodes) (Nat.le_trans (by decide : 2 + 1 ≤ 53) hd) (by decide) (wf_House_networks hW hl0A).2.1 (fun cy => wAt_7 cy _ (wf_House_networks hW hl0A).2.2) rfl ⟨by decide, by decide, by decide +kernel⟩ rfl rfl (Nat.le_of_ble_eq_true rfl) (Nat.le_refl 0) (Nat.le_refl 0) dX4_judge_86 (fun v' S5 hp => ?_)
      obtain ⟨v4, rfl, h, hWS5, hXS5⟩ := hp
      exact E _ _ _ _ _ _ (Nat.le_refl 0) (Nat.le_refl 0) dX4_judge_89 ⟨v4, rfl, h, hWS5, (wkExt.tr hE hXS5)⟩
    · rw [if_neg c3] at h
      refine wk_aload_n C dX4_judge_68 rfl rfl ?_
      refine wk_get C huX4_judge_4 hl0A.1 (fun cy => wAt_4 cy _ hl0A.2) rfl 0 (by decide) (List.mem_of_getElem? (i := 2) rfl) rfl (congrArg some (congrArg va_rf (wf_House_networks hW hl0A).1)) dX4_judge_69 ?_
      refine wk_aload_n C dX4_judge_72 rfl rfl ?_
      refine wk_aload_n C dX4_judge_73 rfl rfl ?_
      refine wk_callV C hR (As := [.ref l1A, .ref l2A]) (cnt := 2) (tX7_judgePairing (l := l) hW (wf_House_networks hW hl0A).2 hl1A hl2A h) rfl (wkGoodV (List.mem_of_getElem? (i := 7) rfl) (List.mem_of_getElem? (i := 8) rfl) (List.mem_of_getElem? (i := 9) rfl) (List.mem_of_getElem? (i := 6) rfl) hbX4_judge_X7_judgePairing gdX7_judgePairing) (Nat.le_trans (by decide : 2 + 1 ≤ 53) hd) (by decide) (wf_House_networks hW hl0A).2.1 (fun cy => wAt_7 cy _ (wf_House_networks hW hl0A).2.2) rfl ⟨by decide, by decide, by decide +kernel⟩ rfl rfl (Nat.le_of_ble_eq_true rfl) (Nat.le_refl 0) (Nat.le_refl 0) dX4_judge_74 (fun v' S10 hp => ?_)
      obtain ⟨v9, rfl, h, hWS10, hXS10⟩ := hp
      refine wk_goto C (tgt := 89) dX4_judge_77 (by decide) ?_
      exact E _ _ _ _ _ _ (Nat.le_refl 0) (Nat.le_refl 0) dX4_judge_89 ⟨v9, rfl, h, hWS10, (wkExt.tr hE hXS10)⟩
  · rw [if_neg c2] at h
    by_cases c14 : (gEntry_kind S l1A) = 1
    · rw [if_pos c14] at h
      rw [c14]
      refine wk_tabIn C (tgt := 90) (off := 86) dX4_judge_4 (by decide) (by decide) (by decide) (by decide) ?_
      refine wk_iload_n C dX4_judge_90 rfl rfl ?_
      refine wk_if_eq C (tgt := 106) dX4_judge_91 (by decide) (fun c15 => ?_) (fun c15 => ?_)
      · rw [if_pos c15] at h
        refine wk_aload_n C dX4_judge_106 rfl rfl ?_
        refine wk_get C huX4_judge_4 hl0A.1 (fun cy => wAt_4 cy _ hl0A.2) rfl 0 (by decide) (List.mem_of_getElem? (i := 2) rfl) rfl (congrArg some (congrArg va_rf (wf_House_networks hW hl0A).1)) dX4_judge_107 ?_
        refine wk_aload_n C dX4_judge_110 rfl rfl ?_
        refine wk_aload_n C dX4_judge_111 rfl rfl ?_
        refine wk_callV C hR (As := [.ref l1A, .ref l2A]) (cnt := 2) (tX7_judgeBar (l := l) hW (wf_House_networks hW hl0A).2 hl1A hl2A h) rfl (wkGoodV (List.mem_of_getElem? (i := 10) rfl) (List.mem_of_getElem? (i := 11) rfl) (List.mem_of_getElem? (i := 12) rfl) (List.mem_of_getElem? (i := 6) rfl) hbX4_judge_X7_judgeBar gdX7_judgeBar) (Nat.le_trans (by decide : 2 + 1 ≤ 53) hd) (by decide) (wf_House_networks hW hl0A).2.1 (fun cy => wAt_7 cy _ (wf_House_networks hW hl0A).2.2) rfl ⟨by decide, by decide, by decide +kernel⟩ rfl rfl (Nat.le_of_ble_eq_true rfl) (Nat.le_refl 0) (Nat.le_refl 0) dX4_judge_112 (fun v' S17 hp => ?_)
        obtain ⟨v16, rfl, h, hWS17, hXS17⟩ := hp
        exact E _ _ _ _ _ _ (Nat.le_refl 0) (Nat.le_refl 0) dX4_judge_115 ⟨v16, rfl, h, hWS17, (wkExt.tr hE hXS17)⟩
      · rw [if_neg c15] at h
        refine wk_aload_n C dX4_judge_94 rfl rfl ?_
        refine wk_get C huX4_judge_4 hl0A.1 (fun cy => wAt_4 cy _ hl0A.2) rfl 0 (by decide) (List.mem_of_getElem? (i := 2) rfl) rfl (congrArg some (congrArg va_rf (wf_House_networks hW hl0A).1)) dX4_judge_95 ?_
        refine wk_aload_n C dX4_judge_98 rfl rfl ?_
        refine wk_aload_n C dX4_judge_99 rfl rfl ?_
        refine wk_callV C hR (As := [.ref l1A, .ref l2A]) (cnt := 2) (tX7_judgeFlow (l := l) hW (wf_House_networks hW hl0A).2 hl1A hl2A h) rfl (wkGoodV (List.mem_of_getElem? (i := 13) rfl) (List.mem_of_getElem? (i := 14) rfl) (List.mem_of_getElem? (i := 15) rfl) (List.mem_of_getElem? (i := 6) rfl) hbX4_judge_X7_judgeFlow gdX7_judgeFlow) (Nat.le_trans (by decide : 2 + 1 ≤ 53) hd) (by decide) (wf_House_networks hW hl0A).2.1 (fun cy => wAt_7 cy _ (wf_House_networks hW hl0A).2.2) rfl ⟨by decide, by decide, by decide +kernel⟩ rfl rfl (Nat.le_of_ble_eq_true rfl) (Nat.le_refl 0) (Nat.le_refl 0) dX4_judge_100 (fun v' S22 hp => ?_)
        obtain ⟨v21, rfl, h, hWS22, hXS22⟩ := hp
        refine wk_goto C (tgt := 115) dX4_judge_103 (by decide) ?_
        exact E _ _ _ _ _ _ (Nat.le_refl 0) (Nat.le_refl 0) dX4_judge_115 ⟨v21, rfl, h, hWS22, (wkExt.tr hE hXS22)⟩
    · rw [if_neg c14] at h
      by_cases c26 : (gEntry_kind S l1A) = 2
      · rw [if_pos c26] at h
        rw [c26]
        refine wk_tabIn C (tgt := 116) (off := 112) dX4_judge_4 (by decide) (by decide) (by decide) (by decide) ?_
        refine wk_iload_n C dX4_judge_116 rfl rfl ?_
        refine wk_if_eq C (tgt := 132) dX4_judge_117 (by decide) (fun c27 => ?_) (fun c27 => ?_)
        · rw [if_pos c27] at h
          refine wk_aload_n C dX4_judge_132 rfl rfl ?_
          refine wk_get C huX4_judge_4 hl0A.1 (fun cy => wAt_4 cy _ hl0A.2) rfl 1 (by decide) (List.mem_of_getElem? (i := 16) rfl) rfl (congrArg some (congrArg va_rf (wf_House_drawings hW hl0A).1)) dX4_judge_133 ?_
          refine wk_aload_n C dX4_judge_136 rfl rfl ?_
          refine wk_aload_n C dX4_judge_137 rfl rfl ?_
          refine wk_callV C hR (As := [.ref l1A, .ref l2A]) (cnt := 2) (tX2_judgeCore (l := l) hW (wf_House_drawings hW hl0A).2 hl1A hl2A h) rfl (wkGoodV (List.mem_of_getElem? (i := 17) rfl) (List.mem_of_getElem? (i := 18) rfl) (List.mem_of_getElem? (i := 19) rfl) (List.mem_of_getElem? (i := 20) rfl) hbX4_judge_X2_judgeCore gdX2_judgeCore) (Nat.le_trans (by decide : 4 + 1 ≤ 53) hd) (by decide) (wf_House_drawings hW hl0A).2.1 (fun cy => wAt_2 cy _ (wf_House_drawings hW hl0A).2.2) rfl ⟨by decide, by decide, by decide +kernel⟩ rfl rfl (Nat.le_of_ble_eq_true rfl) (Nat.le_refl 0) (Nat.le_refl 0) dX4_judge_138 (fun v' S29 hp => ?_)
          obtain ⟨v28, rfl, h, hWS29, hXS29⟩ := hp
          exact E _ _ _ _ _ _ (Nat.le_refl 0) (Nat.le_refl 0) dX4_judge_141 ⟨v28, rfl, h, hWS29, (wkExt.tr hE hXS29)⟩
        · rw [if_neg c27] at h
          refine wk_aload_n C dX4_judge_120 rfl rfl ?_
          refine wk_get C huX4_judge_4 hl0A.1 (fun cy => wAt_4 cy _ hl0A.2) rfl 1 (by decide) (List.mem_of_getElem? (i := 16) rfl) rfl (congrArg some (congrArg va_rf (wf_House_drawings hW hl0A).1)) dX4_judge_121 ?_
          refine wk_aload_n C dX4_judge_124 rfl rfl ?_
          refine wk_aload_n C dX4_judge_125 rfl rfl ?_
          refine wk_callV C hR (As := [.ref l1A, .ref l2A]) (cnt := 2) (tX2_judgeDrawing (l := l) hW (wf_House_drawings hW hl0A).2 hl1A hl2A h) rfl (wkGoodV (List.mem_of_getElem? (i := 21) rfl) (List.mem_of_getElem? (i := 22) rfl) (List.mem_of_getElem? (i := 23) rfl) (List.mem_of_getElem? (i := 20) rfl) hbX4_judge_X2_judgeDrawing gdX2_judgeDrawing) (Nat.le_trans (by decide : 3 + 1 ≤ 53) hd) (by decide) (wf_House_drawings hW hl0A).2.1 (fun cy => wAt_2 cy _ (wf_House_drawings hW hl0A).2.2) rfl ⟨by decide, by decide, by decide +kernel⟩ rfl rfl (Nat.le_of_ble_eq_true rfl) (Nat.le_refl 0) (Nat.le_refl 0) dX4_judge_126 (fun v' S34 hp => ?_)
          obtain ⟨v33, rfl, h, hWS34, hXS34⟩ := hp
          refine wk_goto C (tgt := 141) dX4_judge_129 (by decide) ?_
          exact E _ _ _ _ _ _ (Nat.le_refl 0) (Nat.le_refl 0) dX4_judge_141 ⟨v33, rfl, h, hWS34, (wkExt.tr hE hXS34)⟩
      · rw [if_neg c26] at h
        by_cases c38 : (gEntry_kind S l1A) = 3
        · rw [if_pos c38] at h
          rw [c38]
          refine wk_tabIn C (tgt := 142) (off := 138) dX4_judge_4 (by decide) (by decide) (by decide) (by decide) ?_
          refine wk_iload_n C dX4_judge_142 rfl rfl ?_
          refine wk_if_eq C (tgt := 158) dX4_judge_143 (by decide) (fun c39 => ?_) (fun c39 => ?_)
          · rw [if_pos c39] at h
            refine wk_aload_n C dX4_judge_158 rfl rfl ?_
            refine wk_get C huX4_judge_4 hl0A.1 (fun cy => wAt_4 cy _ hl0A.2) rfl 2 (by decide) (List.mem_of_getElem? (i := 24) rfl) rfl (congrArg some (congrArg va_rf (wf_House_inequalities hW hl0A).1)) dX4_judge_159 ?_
            refine wk_aload_n C dX4_judge_162 rfl rfl ?_
            refine wk_aload_n C dX4_judge_163 rfl rfl ?_
            refine wk_callV C hR (As := [.ref l1A, .ref l2A]) (cnt := 2) (tX5_judgeWeights (l := l) hW (wf_House_inequalities hW hl0A).2 hl1A hl2A h) rfl (wkGoodV (List.mem_of_getElem? (i := 25) rfl) (List.mem_of_getElem? (i := 26) rfl) (List.mem_of_getElem? (i := 27) rfl) (List.mem_of_getElem? (i := 28) rfl) hbX4_judge_X5_judgeWeights gdX5_judgeWeights) (Nat.le_trans (by decide : 2 + 1 ≤ 53) hd) (by decide) (wf_House_inequalities hW hl0A).2.1 (fun cy => wAt_5 cy _ (wf_House_inequalities hW hl0A).2.2) rfl ⟨by decide, by decide, by decide +kernel⟩ rfl rfl (Nat.le_of_ble_eq_true rfl) (Nat.le_refl 0) (Nat.le_refl 0) dX4_judge_164 (fun v' S41 hp => ?_)
            obtain ⟨v40, rfl, h, hWS41, hXS41⟩ := hp
            exact E _ _ _ _ _ _ (Nat.le_refl 0) (Nat.le_refl 0) dX4_judge_167 ⟨v40, rfl, h, hWS41, (wkExt.tr hE hXS41)⟩
          · rw [if_neg c39] at h
            refine wk_aload_n C dX4_judge_146 rfl rfl ?_
            refine wk_get C huX4_judge_4 hl0A.1 (fun cy => wAt_4 cy _ hl0A.2) rfl 2 (by decide) (List.mem_of_getElem? (i := 24) rfl) rfl (congrArg some (congrArg va_rf (wf_House_inequalities hW hl0A).1)) dX4_judge_147 ?_
            refine wk_aload_n C dX4_judge_150 rfl rfl ?_
            refine wk_aload_n C dX4_judge_151 rfl rfl ?_
            refine wk_callV C hR (As := [.ref l1A, .ref l2A]) (cnt := 2) (tX5_judgeUnknowns (l := l) hW (wf_House_inequalities hW hl0A).2 hl1A hl2A h) rfl (wkGoodV (List.mem_of_getElem? (i := 29) rfl) (List.mem_of_getElem? (i := 30) rfl) (List.mem_of_getElem? (i := 31) rfl) (List.mem_of_getElem? (i := 28) rfl) hbX4_judge_X5_judgeUnknowns gdX5_judgeUnknowns) (Nat.le_trans (by decide : 3 + 1 ≤ 53) hd) (by decide) (wf_House_inequalities hW hl0A).2.1 (fun cy => wAt_5 cy _ (wf_House_inequalities hW hl0A).2.2) rfl ⟨by decide, by decide, by decide +kernel⟩ rfl rfl (Nat.le_of_ble_eq_true rfl) (Nat.le_refl 0) (Nat.le_refl 0) dX4_judge_152 (fun v' S46 hp => ?_)
            obtain ⟨v45, rfl, h, hWS46, hXS46⟩ := hp
            refine wk_goto C (tgt := 167) dX4_judge_155 (by decide) ?_
            exact E _ _ _ _ _ _ (Nat.le_refl 0) (Nat.le_refl 0) dX4_judge_167 ⟨v45, rfl, h, hWS46, (wkExt.tr hE hXS46)⟩
        · rw [if_neg c38] at h
          by_cases c50 : (gEntry_kind S l1A) = 4
          · rw [if_pos c50] at h
            rw [c50]
            refine wk_tabIn C (tgt := 168) (off := 164) dX4_judge_4 (by decide) (by decide) (by decide) (by decide) ?_
            refine wk_iload_n C dX4_judge_168 rfl rfl ?_
            refine wk_if_eq C (tgt := 184) dX4_judge_169 (by decide) (fun c51 => ?_) (fun c51 => ?_)
            · rw [if_pos c51] at h
              refine wk_aload_n C dX4_judge_184 rfl rfl ?_
              refine wk_get C huX4_judge_4 hl0A.1 (fun cy => wAt_4 cy _ hl0A.2) rfl 3 (by decide) (List.mem_of_getElem? (i := 32) rfl) rfl (congrArg some (congrArg va_rf (wf_House_clauses hW hl0A).1)) dX4_judge_185 ?_
              refine wk_aload_n C dX4_judge_188 rfl rfl ?_
              refine wk_aload_n C dX4_judge_189 rfl rfl ?_
              refine wk_callV C hR (As := [.ref l1A, .ref l2A]) (cnt := 2) (tX1_judgeTree (l := l) hW (wf_House_clauses hW hl0A).2 hl1A hl2A h) rfl (wkGoodV (List.mem_of_getElem? (i := 33) rfl) (List.mem_of_getElem? (i := 34) rfl) (List.mem_of_getElem? (i := 35) rfl) (List.mem_of_getElem? (i := 36) rfl) hbX4_judge_X1_judgeTree gdX1_judgeTree) (Nat.le_trans (by decide : 3 + 1 ≤ 53) hd) (by decide) (wf_House_clauses hW hl0A).2.1 (fun cy => wAt_1 cy _ (wf_House_clauses hW hl0A).2.2) rfl ⟨by decide, by decide, by decide +kernel⟩ rfl rfl (Nat.le_of_ble_eq_true rfl) (Nat.le_refl 0) (Nat.le_refl 0) dX4_judge_190 (fun v' S53 hp => ?_)
              obtain ⟨v52, rfl, h, hWS53, hXS53⟩ := hp
              exact E _ _ _ _ _ _ (Nat.le_refl 0) (Nat.le_refl 0) dX4_judge_193 ⟨v52, rfl, h, hWS53, (wkExt.tr hE hXS53)⟩
            · rw [if_neg c51] at h
              refine wk_aload_n C dX4_judge_172 rfl rfl ?_
              refine wk_get C huX4_judge_4 hl0A.1 (fun cy => wAt_4 cy _ hl0A.2) rfl 3 (by decide) (List.mem_of_getElem? (i := 32) rfl) rfl (congrArg some (congrArg va_rf (wf_House_clauses hW hl0A).1)) dX4_judge_173 ?_
              refine wk_aload_n C dX4_judge_176 rfl rfl ?_
              refine wk_aload_n C dX4_judge_177 rfl rfl ?_
              refine wk_callV C hR (As := [.ref l1A, .ref l2A]) (cnt := 2) (tX1_judgeTruths (l := l) hW (wf_House_clauses hW hl0A).2 hl1A hl2A h) rfl (wkGoodV (List.mem_of_getElem? (i := 37) rfl) (List.mem_of_getElem? (i := 38) rfl) (List.mem_of_getElem? (i := 39) rfl) (List.mem_of_getElem? (i := 36) rfl) hbX4_judge_X1_judgeTruths gdX1_judgeTruths) (Nat.le_trans (by decide : 3 + 1 ≤ 53) hd) (by decide) (wf_House_clauses hW hl0A).2.1 (fun cy => wAt_1 cy _ (wf_House_clauses hW hl0A).2.2) rfl ⟨by decide, by decide, by decide +kernel⟩ rfl rfl (Nat.le_of_ble_eq_true rfl) (Nat.le_refl 0) (Nat.le_refl 0) dX4_judge_178 (fun v' S58 hp => ?_)
              obtain ⟨v57, rfl, h, hWS58, hXS58⟩ := hp
              refine wk_goto C (tgt := 193) dX4_judge_181 (by decide) ?_
              exact E _ _ _ _ _ _ (Nat.le_refl 0) (Nat.le_refl 0) dX4_judge_193 ⟨v57, rfl, h, hWS58, (wkExt.tr hE hXS58)⟩
          · rw [if_neg c50] at h
            by_cases c62 : (gEntry_kind S l1A) = 5
            · rw [if_pos c62] at h
              rw [c62]
              refine wk_tabIn C (tgt := 194) (off := 190) dX4_judge_4 (by decide) (by decide) (by decide) (by decide) ?_
              refine wk_iload_n C dX4_judge_194 rfl rfl ?_
              refine wk_if_eq C (tgt := 210) dX4_judge_195 (by decide) (fun c63 => ?_) (fun c63 => ?_)
              · rw [if_pos c63] at h
                refine wk_aload_n C dX4_judge_210 rfl rfl ?_
                refine wk_get C huX4_judge_4 hl0A.1 (fun cy => wAt_4 cy _ hl0A.2) rfl 4 (by decide) (List.mem_of_getElem? (i := 40) rfl) rfl (congrArg some (congrArg va_rf (wf_House_numbers hW hl0A).1)) dX4_judge_211 ?_
                refine wk_aload_n C dX4_judge_214 rfl rfl ?_
                refine wk_aload_n C dX4_judge_215 rfl rfl ?_
                refine wk_callV C hR (As := [.ref l1A, .ref l2A]) (cnt := 2) (tX8_judgeModulus (l := l) hW (wf_House_numbers hW hl0A).2 hl1A hl2A h) rfl (wkGoodV (List.mem_of_getElem? (i := 41) rfl) (List.mem_of_getElem? (i := 42) rfl) (List.mem_of_getElem? (i := 43) rfl) (List.mem_of_getElem? (i := 44) rfl) hbX4_judge_X8_judgeModulus gdX8_judgeModulus) (Nat.le_trans (by decide : 3 + 1 ≤ 53) hd) (by decide) (wf_House_numbers hW hl0A).2.1 (fun cy => wAt_8 cy _ (wf_House_numbers hW hl0A).2.2) rfl ⟨by decide, by decide, by decide +kernel⟩ rfl rfl (Nat.le_of_ble_eq_true rfl) (Nat.le_refl 0) (Nat.le_refl 0) dX4_judge_216 (fun v' S65 hp => ?_)
                obtain ⟨v64, rfl, h, hWS65, hXS65⟩ := hp
                exact E _ _ _ _ _ _ (Nat.le_refl 0) (Nat.le_refl 0) dX4_judge_219 ⟨v64, rfl, h, hWS65, (wkExt.tr hE hXS65)⟩
              · rw [if_neg c63] at h
                refine wk_aload_n C dX4_judge_198 rfl rfl ?_
                refine wk_get C huX4_judge_4 hl0A.1 (fun cy => wAt_4 cy _ hl0A.2) rfl 4 (by decide) (List.mem_of_getElem? (i := 40) rfl) rfl (congrArg some (congrArg va_rf (wf_House_numbers hW hl0A).1)) dX4_judge_199 ?_
                refine wk_aload_n C dX4_judge_202 rfl rfl ?_
                refine wk_aload_n C dX4_judge_203 rfl rfl ?_
                refine wk_callV C hR (As := [.ref l1A, .ref l2A]) (cnt := 2) (tX8_judgeUnknowns (l := l) hW (wf_House_numbers hW hl0A).2 hl1A hl2A h) rfl (wkGoodV (List.mem_of_getElem? (i := 45) rfl) (List.mem_of_getElem? (i := 46) rfl) (List.mem_of_getElem? (i := 47) rfl) (List.mem_of_getElem? (i := 44) rfl) hbX4_judge_X8_judgeUnknowns gdX8_judgeUnknowns) (Nat.le_trans (by decide : 2 + 1 ≤ 53) hd) (by decide) (wf_House_numbers hW hl0A).2.1 (fun cy => wAt_8 cy _ (wf_House_numbers hW hl0A).2.2) rfl ⟨by decide, by decide, by decide +kernel⟩ rfl rfl (Nat.le_of_ble_eq_true rfl) (Nat.le_refl 0) (Nat.le_refl 0) dX4_judge_204 (fun v' S70 hp => ?_)
                obtain ⟨v69, rfl, h, hWS70, hXS70⟩ := hp
                refine wk_goto C (tgt := 219) dX4_judge_207 (by decide) ?_
                exact E _ _ _ _ _ _ (Nat.le_refl 0) (Nat.le_refl 0) dX4_judge_219 ⟨v69, rfl, h, hWS70, (wkExt.tr hE hXS70)⟩
            · rw [if_neg c62] at h
              by_cases c74 : (gEntry_kind S l1A) = 6
              · rw [if_pos c74] at h
                rw [c74]
                refine wk_tabIn C (tgt := 220) (off := 216) dX4_judge_4 (by decide) (by decide) (by decide) (by decide) ?_
                refine wk_iload_n C dX4_judge_220 rfl rfl ?_
                refine wk_if_eq C (tgt := 236) dX4_judge_221 (by decide) (fun c75 => ?_) (fun c75 => ?_)
                · rw [if_pos c75] at h
                  refine wk_aload_n C dX4_judge_236 rfl rfl ?_
                  refine wk_get C huX4_judge_4 hl0A.1 (fun cy => wAt_4 cy _ hl0A.2) rfl 4 (by decide) (List.mem_of_getElem? (i := 40) rfl) rfl (congrArg some (congrArg va_rf (wf_House_numbers hW hl0A).1)) dX4_judge_237 ?_
                  refine wk_aload_n C dX4_judge_240 rfl rfl ?_
                  refine wk_aload_n C dX4_judge_241 rfl rfl ?_
                  refine wk_callV C hR (As := [.ref l1A, .ref l2A]) (cnt := 2) (tX8_judgeProduct (l := l) hW (wf_House_numbers hW hl0A).2 hl1A hl2A h) rfl (wkGoodV (List.mem_of_getElem? (i := 48) rfl) (List.mem_of_getElem? (i := 49) rfl) (List.mem_of_getElem? (i := 50) rfl) (List.mem_of_getElem? (i := 44) rfl) hbX4_judge_X8_judgeProduct gdX8_judgeProduct) (Nat.le_trans (by decide : 1 + 1 ≤ 53) hd) (by decide) (wf_House_numbers hW hl0A).2.1 (fun cy => wAt_8 cy _ (wf_House_numbers hW hl0A).2.2) rfl ⟨by decide, by decide, by decide +kernel⟩ rfl rfl (Nat.le_of_ble_eq_true rfl) (Nat.le_refl 0) (Nat.le_refl 0) dX4_judge_242 (fun v' S77 hp => ?_)
                  obtain ⟨v76, rfl, h, hWS77, hXS77⟩ := hp
                  exact E _ _ _ _ _ _ (Nat.le_refl 0) (Nat.le_refl 0) dX4_judge_245 ⟨v76, rfl, h, hWS77, (wkExt.tr hE hXS77)⟩
                · rw [if_neg c75] at h
                  refine wk_aload_n C dX4_judge_224 rfl rfl ?_
                  refine wk_get C huX4_judge_4 hl0A.1 (fun cy => wAt_4 cy _ hl0A.2) rfl 4 (by decide) (List.mem_of_getElem? (i := 40) rfl) rfl (congrArg some (congrArg va_rf (wf_House_numbers hW hl0A).1)) dX4_judge_225 ?_
                  refine wk_aload_n C dX4_judge_228 rfl rfl ?_
                  refine wk_aload_n C dX4_judge_229 rfl rfl ?_
                  refine wk_callV C hR (As := [.ref l1A, .ref l2A]) (cnt := 2) (tX8_judgePrime (l := l) hW (wf_House_numbers hW hl0A).2 hl1A hl2A h) rfl (wkGoodV (List.mem_of_getElem? (i := 51) rfl) (List.mem_of_getElem? (i := 52) rfl) (List.mem_of_getElem? (i := 53) rfl) (List.mem_of_getElem? (i := 44) rfl) hbX4_judge_X8_judgePrime gdX8_judgePrime) (Nat.le_trans (by decide : 50 + 1 ≤ 53) hd) (by decide) (wf_House_numbers hW hl0A).2.1 (fun cy => wAt_8 cy _ (wf_House_numbers hW hl0A).2.2) rfl ⟨by decide, by decide, by decide +kernel⟩ rfl rfl (Nat.le_of_ble_eq_true rfl) (Nat.le_refl 0) (Nat.le_refl 0) dX4_judge_230 (fun v' S82 hp => ?_)
                  obtain ⟨v81, rfl, h, hWS82, hXS82⟩ := hp
                  refine wk_goto C (tgt := 245) dX4_judge_233 (by decide) ?_
                  exact E _ _ _ _ _ _ (Nat.le_refl 0) (Nat.le_refl 0) dX4_judge_245 ⟨v81, rfl, h, hWS82, (wkExt.tr hE hXS82)⟩
              · rw [if_neg c74] at h
                by_cases c86 : (gEntry_kind S l1A) = 7
                · rw [if_pos c86] at h
                  rw [c86]
                  refine wk_tabIn C (tgt := 246) (off := 242) dX4_judge_4 (by decide) (by decide) (by decide) (by decide) ?_
                  refine wk_iload_n C dX4_judge_246 rfl rfl ?_
                  refine wk_if_eq C (tgt := 262) dX4_judge_247 (by decide) (fun c87 => ?_) (fun c87 => ?_)
                  · rw [if_pos c87] at h
                    refine wk_aload_n C dX4_judge_262 rfl rfl ?_
                    refine wk_get C huX4_judge_4 hl0A.1 (fun cy => wAt_4 cy _ hl0A.2) rfl 4 (by decide) (List.mem_of_getElem? (i := 40) rfl) rfl (congrArg some (congrArg va_rf (wf_House_numbers hW hl0A).1)) dX4_judge_263 ?_
                    refine wk_aload_n C dX4_judge_266 rfl rfl ?_
                    refine wk_aload_n C dX4_judge_267 rfl rfl ?_
                    refine wk_callV C hR (As := [.ref l1A, .ref l2A]) (cnt := 2) (tX8_judgeSigns (l := l) hW (wf_House_numbers hW hl0A).2 hl1A hl2A h) rfl (wkGoodV (List.mem_of_getElem? (i := 54) rfl) (List.mem_of_getElem? (i := 55) rfl) (List.mem_of_getElem? (i := 56) rfl) (List.mem_of_getElem? (i := 44) rfl) hbX4_judge_X8_judgeSigns gdX8_judgeSigns) (Nat.le_trans (by decide : 5 + 1 ≤ 53) hd) (by decide) (wf_House_numbers hW hl0A).2.1 (fun cy => wAt_8 cy _ (wf_House_numbers hW hl0A).2.2) rfl ⟨by decide, by decide, by decide +kernel⟩ rfl rfl (Nat.le_of_ble_eq_true rfl) (Nat.le_refl 0) (Nat.le_refl 0) dX4_judge_268 (fun v' S89 hp => ?_)
                    obtain ⟨v88, rfl, h, hWS89, hXS89⟩ := hp
                    exact E _ _ _ _ _ _ (Nat.le_refl 0) (Nat.le_refl 0) dX4_judge_271 ⟨v88, rfl, h, hWS89, (wkExt.tr hE hXS89)⟩
                  · rw [if_neg c87] at h
                    refine wk_aload_n C dX4_judge_250 rfl rfl ?_
                    refine wk_get C huX4_judge_4 hl0A.1 (fun cy => wAt_4 cy _ hl0A.2) rfl 4 (by decide) (List.mem_of_getElem? (i := 40) rfl) rfl (congrArg some (congrArg va_rf (wf_House_numbers hW hl0A).1)) dX4_judge_251 ?_
                    refine wk_aload_n C dX4_judge_254 rfl rfl ?_
                    refine wk_aload_n C dX4_judge_255 rfl rfl ?_
                    refine wk_callV C hR (As := [.ref l1A, .ref l2A]) (cnt := 2) (tX8_judgeParts (l := l) hW (wf_House_numbers hW hl0A).2 hl1A hl2A h) rfl (wkGoodV (List.mem_of_getElem? (i := 57) rfl) (List.mem_of_getElem? (i := 58) rfl) (List.mem_of_getElem? (i := 59) rfl) (List.mem_of_getElem? (i := 44) rfl) hbX4_judge_X8_judgeParts gdX8_judgeParts) (Nat.le_trans (by decide : 5 + 1 ≤ 53) hd) (by decide) (wf_House_numbers hW hl0A).2.1 (fun cy => wAt_8 cy _ (wf_House_numbers hW hl0A).2.2) rfl ⟨by decide, by decide, by decide +kernel⟩ rfl rfl (Nat.le_of_ble_eq_true rfl) (Nat.le_refl 0) (Nat.le_refl 0) dX4_judge_256 (fun v' S94 hp => ?_)
                    obtain ⟨v93, rfl, h, hWS94, hXS94⟩ := hp
                    refine wk_goto C (tgt := 271) dX4_judge_259 (by decide) ?_
                    exact E _ _ _ _ _ _ (Nat.le_refl 0) (Nat.le_refl 0) dX4_judge_271 ⟨v93, rfl, h, hWS94, (wkExt.tr hE hXS94)⟩
                · rw [if_neg c86] at h
                  by_cases c98 : (gEntry_kind S l1A) = 8
                  · rw [if_pos c98] at h
                    rw [c98]
                    refine wk_tabIn C (tgt := 272) (off := 268) dX4_judge_4 (by decide) (by decide) (by decide) (by decide) ?_
                    refine wk_iload_n C dX4_judge_272 rfl rfl ?_
                    refine wk_if_eq C (tgt := 288) dX4_judge_273 (by decide) (fun c99 => ?_) (fun c99 => ?_)
                    · rw [if_pos c99] at h
                      refine wk_aload_n C dX4_judge_288 rfl rfl ?_
                      refine wk_get C huX4_judge_4 hl0A.1 (fun cy => wAt_4 cy _ hl0A.2) rfl 5 (by decide) (List.mem_of_getElem? (i := 60) rfl) rfl (congrArg some (congrArg va_rf (wf_House_words hW hl0A).1)) dX4_judge_289 ?_
                      refine wk_aload_n C dX4_judge_292 rfl rfl ?_
                      refine wk_aload_n C dX4_judge_293 rfl rfl ?_
                      refine wk_callV C hR (As := [.ref l1A, .ref l2A]) (cnt := 2) (tX10_judgeRows (l := l) hW (wf_House_words hW hl0A).2 hl1A hl2A h) rfl (wkGoodV (List.mem_of_getElem? (i := 61) rfl) (List.mem_of_getElem? (i := 62) rfl) (List.mem_of_getElem? (i := 63) rfl) (List.mem_of_getElem? (i := 64) rfl) hbX4_judge_X10_judgeRows gdX10_judgeRows) (Nat.le_trans (by decide : 3 + 1 ≤ 53) hd) (by decide) (wf_House_words hW hl0A).2.1 (fun cy => wAt_10 cy _ (wf_House_words hW hl0A).2.2) rfl ⟨by decide, by decide, by decide +kernel⟩ rfl rfl (Nat.le_of_ble_eq_true rfl) (Nat.le_refl 0) (Nat.le_refl 0) dX4_judge_294 (fun v' S101 hp => ?_)
                      obtain ⟨v100, rfl, h, hWS101, hXS101⟩ := hp
                      exact E _ _ _ _ _ _ (Nat.le_refl 0) (Nat.le_refl 0) dX4_judge_297 ⟨v100, rfl, h, hWS101, (wkExt.tr hE hXS101)⟩
                    · rw [if_neg c99] at h
                      refine wk_aload_n C dX4_judge_276 rfl rfl ?_
                      refine wk_get C huX4_judge_4 hl0A.1 (fun cy => wAt_4 cy _ hl0A.2) rfl 5 (by decide) (List.mem_of_getElem? (i := 60) rfl) rfl (congrArg some (congrArg va_rf (wf_House_words hW hl0A).1)) dX4_judge_277 ?_
                      refine wk_aload_n C dX4_judge_280 rfl rfl ?_
                      refine wk_aload_n C dX4_judge_281 rfl rfl ?_
                      refine wk_callV C hR (As := [.ref l1A, .ref l2A]) (cnt := 2) (tX10_judgeItems (l := l) hW (wf_House_words hW hl0A).2 hl1A hl2A h) rfl (wkGoodV (List.mem_of_getElem? (i := 65) rfl) (List.mem_of_getElem? (i := 66) rfl) (List.mem_of_getElem? (i := 67) rfl) (List.mem_of_getElem? (i := 64) rfl) hbX4_judge_X10_judgeItems gdX10_judgeItems) (Nat.le_trans (by decide : 3 + 1 ≤ 53) hd) (by decide) (wf_House_words hW hl0A).2.1 (fun cy => wAt_10 cy _ (wf_House_words hW hl0A).2.2) rfl ⟨by decide, by decide, by decide +kernel⟩ rfl rfl (Nat.le_of_ble_eq_true rfl) (Nat.le_refl 0) (Nat.le_refl 0) dX4_judge_282 (fun v' S106 hp => ?_)
                      obtain ⟨v105, rfl, h, hWS106, hXS106⟩ := hp
                      refine wk_goto C (tgt := 297) dX4_judge_285 (by decide) ?_
                      exact E _ _ _ _ _ _ (Nat.le_refl 0) (Nat.le_refl 0) dX4_judge_297 ⟨v105, rfl, h, hWS106, (wkExt.tr hE hXS106)⟩
                  · rw [if_neg c98] at h
                    by_cases c110 : (gEntry_kind S l1A) = 9
                    · rw [if_pos c110] at h
                      rw [c110]
                      refine wk_tabIn C (tgt := 298) (off := 294) dX4_judge_4 (by decide) (by decide) (by decide) (by decide) ?_
                      refine wk_iload_n C dX4_judge_298 rfl rfl ?_
                      refine wk_if_eq C (tgt := 314) dX4_judge_299 (by decide) (fun c111 => ?_) (fun c111 => ?_)
                      · rw [if_pos c111] at h
                        refine wk_aload_n C dX4_judge_314 rfl rfl ?_
                        refine wk_get C huX4_judge_4 hl0A.1 (fun cy => wAt_4 cy _ hl0A.2) rfl 5 (by decide) (List.mem_of_getElem? (i := 60) rfl) rfl (congrArg some (congrArg va_rf (wf_House_words hW hl0A).1)) dX4_judge_315 ?_
                        refine wk_aload_n C dX4_judge_318 rfl rfl ?_
                        refine wk_aload_n C dX4_judge_319 rfl rfl ?_
                        refine wk_callV C hR (As := [.ref l1A, .ref l2A]) (cnt := 2) (tX10_judgeClosure (l := l) hW (wf_House_words hW hl0A).2 hl1A hl2A h) rfl (wkGoodV (List.mem_of_getElem? (i := 68) rfl) (List.mem_of_getElem? (i := 69) rfl) (List.mem_of_getElem? (i := 70) rfl) (List.mem_of_getElem? (i := 64) rfl) hbX4_judge_X10_judgeClosure gdX10_judgeClosure) (Nat.le_trans (by decide : 3 + 1 ≤ 53) hd) (by decide) (wf_House_words hW hl0A).2.1 (fun cy => wAt_10 cy _ (wf_House_words hW hl0A).2.2) rfl ⟨by decide, by decide, by decide +kernel⟩ rfl rfl (Nat.le_of_ble_eq_true rfl) (Nat.le_refl 0) (Nat.le_refl 0) dX4_judge_320 (fun v' S113 hp => ?_)
                        obtain ⟨v112, rfl, h, hWS113, hXS113⟩ := hp
                        exact E _ _ _ _ _ _ (Nat.le_refl 0) (Nat.le_refl 0) dX4_judge_323 ⟨v112, rfl, h, hWS113, (wkExt.tr hE hXS113)⟩
                      · rw [if_neg c111] at h
                        refine wk_aload_n C dX4_judge_302 rfl rfl ?_
                        refine wk_get C huX4_judge_4 hl0A.1 (fun cy => wAt_4 cy _ hl0A.2) rfl 5 (by decide) (List.mem_of_getElem? (i := 60) rfl) rfl (congrArg some (congrArg va_rf (wf_House_words hW hl0A).1)) dX4_judge_303 ?_
                        refine wk_aload_n C dX4_judge_306 rfl rfl ?_
                        refine wk_aload_n C dX4_judge_307 rfl rfl ?_
                        refine wk_callV C hR (As := [.ref l1A, .ref l2A]) (cnt := 2) (tX10_judgeSteps (l := l) hW (wf_House_words hW hl0A).2 hl1A hl2A h) rfl (wkGoodV (List.mem_of_getElem? (i := 71) rfl) (List.mem_of_getElem? (i := 72) rfl) (List.mem_of_getElem? (i := 73) rfl) (List.mem_of_getElem? (i := 64) rfl) hbX4_judge_X10_judgeSteps gdX10_judgeSteps) (Nat.le_trans (by decide : 4 + 1 ≤ 53) hd) (by decide) (wf_House_words hW hl0A).2.1 (fun cy => wAt_10 cy _ (wf_House_words hW hl0A).2.2) rfl ⟨by decide, by decide, by decide +kernel⟩ rfl rfl (Nat.le_of_ble_eq_true rfl) (Nat.le_refl 0) (Nat.le_refl 0) dX4_judge_308 (fun v' S118 hp => ?_)
                        obtain ⟨v117, rfl, h, hWS118, hXS118⟩ := hp
                        refine wk_goto C (tgt := 323) dX4_judge_311 (by decide) ?_
                        exact E _ _ _ _ _ _ (Nat.le_refl 0) (Nat.le_refl 0) dX4_judge_323 ⟨v117, rfl, h, hWS118, (wkExt.tr hE hXS118)⟩
                    · rw [if_neg c110] at h
                      by_cases c122 : (gEntry_kind S l1A) = 10
                      · rw [if_pos c122] at h
                        rw [c122]
                        refine wk_tabIn C (tgt := 324) (off := 320) dX4_judge_4 (by decide) (by decide) (by decide) (by decide) ?_
                        refine wk_iload_n C dX4_judge_324 rfl rfl ?_
                        refine wk_if_eq C (tgt := 340) dX4_judge_325 (by decide) (fun c123 => ?_) (fun c123 => ?_)
                        · rw [if_pos c123] at h
                          refine wk_aload_n C dX4_judge_340 rfl rfl ?_
                          refine wk_get C huX4_judge_4 hl0A.1 (fun cy => wAt_4 cy _ hl0A.2) rfl 6 (by decide) (List.mem_of_getElem? (i := 74) rfl) rfl (congrArg some (congrArg va_rf (wf_House_machines hW hl0A).1)) dX4_judge_341 ?_
                          refine wk_aload_n C dX4_judge_344 rfl rfl ?_
                          refine wk_aload_n C dX4_judge_345 rfl rfl ?_
                          refine wk_callV C hR (As := [.ref l1A, .ref l2A]) (cnt := 2) (tX6_judgeLetters (l := l) hW (wf_House_machines hW hl0A).2 hl1A hl2A h) rfl (wkGoodV (List.mem_of_getElem? (i := 75) rfl) (List.mem_of_getElem? (i := 76) rfl) (List.mem_of_getElem? (i := 77) rfl) (List.mem_of_getElem? (i := 78) rfl) hbX4_judge_X6_judgeLetters gdX6_judgeLetters) (Nat.le_trans (by decide : 2 + 1 ≤ 53) hd) (by decide) (wf_House_machines hW hl0A).2.1 (fun cy => wAt_6 cy _ (wf_House_machines hW hl0A).2.2) rfl ⟨by decide, by decide, by decide +kernel⟩ rfl rfl (Nat.le_of_ble_eq_true rfl) (Nat.le_refl 0) (Nat.le_refl 0) dX4_judge_346 (fun v' S125 hp => ?_)
                          obtain ⟨v124, rfl, h, hWS125, hXS125⟩ := hp
                          exact E _ _ _ _ _ _ (Nat.le_refl 0) (Nat.le_refl 0) dX4_judge_349 ⟨v124, rfl, h, hWS125, (wkExt.tr hE hXS125)⟩
                        · rw [if_neg c123] at h
                          refine wk_aload_n C dX4_judge_328 rfl rfl ?_
                          refine wk_get C huX4_judge_4 hl0A.1 (fun cy => wAt_4 cy _ hl0A.2) rfl 6 (by decide) (List.mem_of_getElem? (i := 74) rfl) rfl (congrArg some (congrArg va_rf (wf_House_machines hW hl0A).1)) dX4_judge_329 ?_
                          refine wk_aload_n C dX4_judge_332 rfl rfl ?_
                          refine wk_aload_n C dX4_judge_333 rfl rfl ?_
                          refine wk_callV C hR (As := [.ref l1A, .ref l2A]) (cnt := 2) (tX6_judgeLikeness (l := l) hW (wf_House_machines hW hl0A).2 hl1A hl2A h) rfl (wkGoodV (List.mem_of_getElem? (i := 79) rfl) (List.mem_of_getElem? (i := 80) rfl) (List.mem_of_getElem? (i := 81) rfl) (List.mem_of_getElem? (i := 78) rfl) hbX4_judge_X6_judgeLikeness gdX6_judgeLikeness) (Nat.le_trans (by decide : 2 + 1 ≤ 53) hd) (by decide) (wf_House_machines hW hl0A).2.1 (fun cy => wAt_6 cy _ (wf_House_machines hW hl0A).2.2) rfl ⟨by decide, by decide, by decide +kernel⟩ rfl rfl (Nat.le_of_ble_eq_true rfl) (Nat.le_refl 0) (Nat.le_refl 0) dX4_judge_334 (fun v' S130 hp => ?_)
                          obtain ⟨v129, rfl, h, hWS130, hXS130⟩ := hp
                          refine wk_goto C (tgt := 349) dX4_judge_337 (by decide) ?_
                          exact E _ _ _ _ _ _ (Nat.le_refl 0) (Nat.le_refl 0) dX4_judge_349 ⟨v129, rfl, h, hWS130, (wkExt.tr hE hXS130)⟩
                      · rw [if_neg c122] at h
                        refine wk_tabOut C (tgt := 350) dX4_judge_4 (wkOut (fun z h1 h2 e => by
                            have hz : z = 0 ∨ z = 1 ∨ z = 2 ∨ z = 3 ∨ z = 4 ∨ z = 5 ∨ z = 6 ∨ z = 7 ∨ z = 8 ∨ z = 9 ∨ z = 10 := by omega
                            rcases hz with rfl | rfl | rfl | rfl | rfl | rfl | rfl | rfl | rfl | rfl | rfl
                            · exact c2 e
                            · exact c14 e
                            · exact c26 e
                            · exact c38 e
                            · exact c50 e
                            · exact c62 e
                            · exact c74 e
                            · exact c86 e
                            · exact c98 e
                            · exact c110 e
                            · exact c122 e)) (by decide) ?_
                        refine wk_aload_n C dX4_judge_350 rfl rfl ?_
                        refine wk_get C huX4_judge_4 hl0A.1 (fun cy => wAt_4 cy _ hl0A.2) rfl 6 (by decide) (List.mem_of_getElem? (i := 74) rfl) rfl (congrArg some (congrArg va_rf (wf_House_machines hW hl0A).1)) dX4_judge_351 ?_
                        refine wk_aload_n C dX4_judge_354 rfl rfl ?_
                        refine wk_aload_n C dX4_judge_355 rfl rfl ?_
                        refine wk_iload_n C dX4_judge_356 rfl rfl ?_
                        refine wk_if_eq C (tgt := 364) dX4_judge_357 (by decide) (fun c134 => ?_) (fun c134 => ?_)
                        · rw [if_pos c134] at h
                          refine wk_iconst C (v := 1) dX4_judge_364 (by decide) ?_
                          refine wk_callV C hR (As := [.ref l1A, .ref l2A, .int (1 : Int32)]) (cnt := 3) (tX6_judgeGame (l := l) hW (wf_House_machines hW hl0A).2 hl1A hl2A h) rfl (wkGoodV (List.mem_of_getElem? (i := 82) rfl) (List.mem_of_getElem? (i := 83) rfl) (List.mem_of_getElem? (i := 84) rfl) (List.mem_of_getElem? (i := 78) rfl) hbX4_judge_X6_judgeGame gdX6_judgeGame) (Nat.le_trans (by decide : 52 + 1 ≤ 53) hd) (by decide) (wf_House_machines hW hl0A).2.1 (fun cy => wAt_6 cy _ (wf_House_machines hW hl0A).2.2) rfl ⟨by decide, by decide, by decide +kernel⟩ rfl rfl (Nat.le_of_ble_eq_true rfl) (Nat.le_refl 0) (Nat.le_refl 0) dX4_judge_365 (fun v' S136 hp => ?_)
                          obtain ⟨v135, rfl, h, hWS136, hXS136⟩ := hp
                          exact E _ _ _ _ _ _ (Nat.le_refl 0) (Nat.le_refl 0) dX4_judge_368 ⟨v135, rfl, h, hWS136, (wkExt.tr hE hXS136)⟩
                        · rw [if_neg c134] at h
                          refine wk_iconst C (v := 0) dX4_judge_360 (by decide) ?_
                          refine wk_goto C (tgt := 365) dX4_judge_361 (by decide) ?_
                          refine wk_callV C hR (As := [.ref l1A, .ref l2A, .int (0 : Int32)]) (cnt := 3) (tX6_judgeGame (l := l) hW (wf_House_machines hW hl0A).2 hl1A hl2A h) rfl (wkGoodV (List.mem_of_getElem? (i := 82) rfl) (List.mem_of_getElem? (i := 83) rfl) (List.mem_of_getElem? (i := 84) rfl) (List.mem_of_getElem? (i := 78) rfl) hbX4_judge_X6_judgeGame gdX6_judgeGame) (Nat.le_trans (by decide : 52 + 1 ≤ 53) hd) (by decide) (wf_House_machines hW hl0A).2.1 (fun cy => wAt_6 cy _ (wf_House_machines hW hl0A).2.2) rfl ⟨by decide, by decide, by decide +kernel⟩ rfl rfl (Nat.le_of_ble_eq_true rfl) (Nat.le_refl 0) (Nat.le_refl 0) dX4_judge_365 (fun v' S141 hp => ?_)
                          obtain ⟨v140, rfl, h, hWS141, hXS141⟩ := hp
                          exact E _ _ _ _ _ _ (Nat.le_refl 0) (Nat.le_refl 0) dX4_judge_368 ⟨v140, rfl, h, hWS141, (wkExt.tr hE hXS141)⟩
