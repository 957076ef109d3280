def wvX11_put : List Cond := .code yX11_put cX11_put 8 (some .int) :: (([.methodLink RX11 103 yX11_entryAt, .instanceMethod yX11_entryAt, .selects RX11 yX11_entryAt yX11_entryAt, .initialized RX11, .methodLink RX11 107 yX11_tellNumbers, .instanceMethod yX11_tellNumbers, .selects RX11 yX11_tellNumbers yX11_tellNumbers, .fieldLink RX11 111 "Witnessworks$Entry" "itemCount" "I", .methodLink RX11 114 yX11_testItem, .instanceMethod yX11_testItem, .selects RX11 yX11_testItem yX11_testItem, .methodLink RX11 118 yX11_mostItems, .static yX11_mostItems, .methodLink RX11 99 yX11_remember, .instanceMethod yX11_remember, .selects RX11 yX11_remember yX11_remember, .fieldLink RX11 26 "Witnessworks" "told" "[I", .methodLink RX11 124 yX3_setItem, .instanceMethod yX3_setItem, .selects RX3 yX3_setItem yX3_setItem, .initialized RX3, .fieldLink RX11 128 "Witnessworks$Entry" "isSolved" "Z"] : List Cond) ++ ((wsX30 ++ (wsX110)) ++ (wvX11_entryAt ++ (wvX11_tellNumbers ++ (wvX11_testItem ++ (wvX11_mostItems ++ (wvX11_remember ++ (wvX3_setItem))))))))
theorem huX11_put_3 : ∀ w ∈ u_ws RX3 TX3 17, w ∈ wvX11_put := fun w h => List.mem_cons_of_mem _ (List.mem_append_right _ (List.mem_append_left _ (List.mem_append_left _ h)))
theorem huX11_put_11 : ∀ w ∈ u_ws RX11 TX11 19, w ∈ wvX11_put := fun w h => List.mem_cons_of_mem _ (List.mem_append_right _ (List.mem_append_left _ (List.mem_append_right _ h)))
theorem hbX11_put_X11_entryAt : ∀ w ∈ wvX11_entryAt, w ∈ wvX11_put := fun w h => List.mem_cons_of_mem _ (List.mem_append_right _ (List.mem_append_right _ (List.mem_append_left _ h)))
theorem hbX11_put_X11_tellNumbers : ∀ w ∈ wvX11_tellNumbers, w ∈ wvX11_put := fun w h => List.mem_cons_of_mem _ (List.mem_append_right _ (List.mem_append_right _ (List.mem_append_right _ (List.mem_append_left _ h))))
theorem hbX11_put_X11_testItem : ∀ w ∈ wvX11_testItem, w ∈ wvX11_put := fun w h => List.mem_cons_of_mem _ (List.mem_append_right _ (List.mem_append_right _ (List.mem_append_right _ (List.mem_append_right _ (List.mem_append_left _ h)))))
theorem hbX11_put_X11_mostItems : ∀ w ∈ wvX11_mostItems, w ∈ wvX11_put := fun w h => List.mem_cons_of_mem _ (List.mem_append_right _ (List.mem_append_right _ (List.mem_append_right _ (List.mem_append_right _ (List.mem_append_right _ (List.mem_append_left _ h))))))
theorem hbX11_put_X11_remember : ∀ w ∈ wvX11_remember, w ∈ wvX11_put := fun w h => List.mem_cons_of_mem _ (List.mem_append_right _ (List.mem_append_right _ (List.mem_append_right _ (List.mem_append_right _ (List.mem_append_right _ (List.mem_append_right _ (List.mem_append_left _ h)))))))
theorem hbX11_put_X3_setItem : ∀ w ∈ wvX3_setItem, w ∈ wvX11_put := fun w h => List.mem_cons_of_mem _ (List.mem_append_right _ (List.mem_append_right _ (List.mem_append_right _ (List.mem_append_right _ (List.mem_append_right _ (List.mem_append_right _ (List.mem_append_right _ h)))))))
theorem gdX11_put : ∀ w ∈ wvX11_put, wkGd w := wkGdC rfl (wkGdA (wkGdL (by decide +kernel)) (wkGdA (wkGdA gdX3 gdX11) (wkGdA gdX11_entryAt (wkGdA gdX11_tellNumbers (wkGdA gdX11_testItem (wkGdA gdX11_mostItems (wkGdA gdX11_remember gdX3_setItem)))))))
def rX11_put (F : Nat) (k n : Nat) (l0A : Nat) (l1I : Int32) (l2I : Int32) (l3I : Int32) (l4I : Int32) (l5I : Int32) (l6I : Int32) (S : wPS) (Φ : (Int32 → wPS → Prop)) (Ψ : String → wPS → Prop) : Prop :=
  ∃ k4 n5 : Nat, 0 + k4 ≤ k ∧ 0 + n5 ≤ n ∧ rX11_entryAt F k4 n5 l0A l1I S (fun v1 S2 => rX11_tellNumbers F l0A l2I l3I l4I l5I l6I S2 fun v6 S7 => ∃ k14 n15 : Nat, (0 + k4) + k14 ≤ k ∧ (0 + n5) + n15 ≤ n ∧ rX11_testItem F k14 n15 l0A v1 (gEntry_itemCount S7 v1) S7 (fun v11 S12 => rX11_mostItems F v1 S12 fun v16 S17 => if (gEntry_itemCount S12 v1) < v16 then (rX11_remember F l0A (112 : Int32) l1I S17 fun v22 S23 => rX3_setItem F v1 (gEntry_itemCount S23 v1) (wkAd (gWitnessworks_told S23 l0A)) S23 fun v27 S28 => wkLt (wu_Entry_itemCount S28 v1 ((gEntry_itemCount S28 v1) + (1 : Int32))) fun S32 => wkLt (wu_Entry_isSolved S32 v1 (0 : Int32)) fun S33 => Φ (gEntry_itemCount S33 v1) S33) else (((0 + k4) + k14) + 1 ≤ k ∧ ((0 + n5) + n15) + 6 ≤ n ∧ Ψ "java/lang/IllegalStateException" S17)) Ψ) Ψ
set_option maxHeartbeats 4000000 in
set_option maxRecDepth 100000 in
theorem tX11_put {l : Launch} {g : wkG} {F : Nat} {k n : Nat}  {S : wPS} {l0A : Nat} {l1I : Int32} {l2I : Int32} {l3I : Int32} {l4I : Int32} {l5I : Int32} {l6I : Int32} {Φ : (Int32 → wPS → Prop)} {Ψ : String → wPS → Prop} (hst : wkSta g) (hex : wkExA g) (hlt : l.stackTraces = false) (hW : wkWF S) (hl0A : wkIs S l0A 11) (h : rX11_put F k n l0A l1I l2I l3I l4I l5I l6I S Φ Ψ) : wkMetX l g yX11_put wvX11_put 7 k n [.ref l0A, .int l1I, .int l2I, .int l3I, .int l4I, .int l5I, .int l6I] S (fun v' S'' => ∃ v : Int32, v' = some (.int v) ∧ Φ v S'' ∧ wkWF S'' ∧ wkExt S S'') (fun E S'' => Ψ E S'' ∧ wkWF S'' ∧ wkExt S S'') := by
  refine wkMetX_of (ret := (some .int)) (by decide) rfl (Nat.le_of_ble_eq_true rfl) rfl hex hlt (by decide) (fun X hg C hR E EX ET => ?_)
  subst hg
  have hE : wkExt S S := wkExt.rf
  have hd : 7 ≤ 7 := Nat.le_refl _
  show wkGo l X 8 0 0 0 S [some (.ref l0A), some (.int l1I), some (.int l2I), some (.int l3I), some (.int l4I), some (.int l5I), some (.int l6I), none] []
  unfold rX11_put at h
  refine wk_aload_n C dX11_put_0 rfl rfl ?_
  refine wk_iload_n C dX11_put_1 rfl rfl ?_
  obtain ⟨k4, n5, hk4, hn5, h⟩ := h
  refine wk_callVX C hR EX (As := [.int l1I]) (cnt := 1) (tX11_entryAt (l := l) hex hlt hW hl0A h) rfl (wkGoodV (List.mem_of_getElem? (i := 1) rfl) (List.mem_of_getElem? (i := 2) rfl) (List.mem_of_getElem? (i := 3) rfl) (List.mem_of_getElem? (i := 4) rfl) hbX11_put_X11_entryAt gdX11_entryAt) (Nat.le_trans (by decide : 6 + 1 ≤ 7) hd) (by decide) hl0A.1 (fun cy => wAt_11 cy _ hl0A.2) rfl ⟨by decide, by decide, by decide +kernel⟩ rfl rfl (Nat.le_of_ble_eq_true rfl) hk4 hn5 dX11_put_2 (fun E S' q => ⟨q.1, q.2.1, wkExt.tr hE q.2.2⟩) (fun v' S2 hp => ?_)
  obtain ⟨v1, rfl, h, hWS2, hXS2, hIS2⟩ := hp
  refine wk_astore C (lv' := [some (.ref l0A), some (.int l1I), some (.int l2I), some (.int l3I), some (.int l4I), some (.int l5I), some (.int l6I), some (.ref v1)]) dX11_put_5 (by decide) rfl ?_
  refine wk_aload_n C dX11_put_7 rfl rfl ?_
  refine wk_iload_n C dX11_put_8 rfl rfl ?_
  refine wk_iload_n C dX11_put_9 rfl rfl ?_
  refine wk_iload C dX11_put_10 rfl ?_
  refine wk_iload C dX11_put_12 rfl ?_
  refine wk_iload C dX11_put_14 rfl ?_
  refine wk_callV C hR (As := [.int l2I, .int l3I, .int l4I, .int l5I, .int l6I]) (cnt := 5) (tX11_tellNumbers (l := l) hWS2 (hXS2 _ _ hl0A) h) rfl (wkGoodV (List.mem_of_getElem? (i := 5) rfl) (List.mem_of_getElem? (i := 6) rfl) (List.mem_of_getElem? (i := 7) rfl) (List.mem_of_getElem? (i := 4) rfl) hbX11_put_X11_tellNumbers gdX11_tellNumbers) (Nat.le_trans (by decide : 0 + 1 ≤ 7) hd) (by decide) (hXS2 _ _ hl0A).1 (fun cy => wAt_11 cy _ (hXS2 _ _ hl0A).2) rfl ⟨by decide, by decide, by decide +kernel⟩ rfl rfl (Nat.le_of_ble_eq_true rfl) hk4 hn5 dX11_put_16 (fun v' S7 hp => ?_)
  obtain ⟨v6, rfl, h, hWS7, hXS7⟩ := hp
  refine wk_aload_n C dX11_put_19 rfl rfl ?_
  refine wk_aload C dX11_put_20 rfl ?_
  refine wk_aload C dX11_put_22 rfl ?_
  refine wk_get C (v := .int (gEntry_itemCount S7 v1)) huX11_put_3 (hXS7 _ _ hIS2).1 (fun cy => wAt_3 cy _ (hXS7 _ _ hIS2).2) rfl 6 (by decide) (List.mem_of_getElem? (i := 8) rfl) rfl rfl dX11_put_24 ?_
  obtain ⟨k14, n15, hk14, hn15, h⟩ := h
  refine wk_callVX C hR EX (As := [.ref v1, .int (gEntry_itemCount S7 v1)]) (cnt := 2) (tX11_testItem (l := l) hex hlt hWS7 (hXS7 _ _ (hXS2 _ _ hl0A)) (hXS7 _ _ hIS2) h) rfl (wkGoodV (List.mem_of_getElem? (i := 9) rfl) (List.mem_of_getElem? (i := 10) rfl) (List.mem_of_getElem? (i := 11) rfl) (List.mem_of_getElem? (i := 4) rfl) hbX11_put_X11_testItem gdX11_testItem) (Nat.le_trans (by decide : 6 + 1 ≤ 7) hd) (by decide) (hXS7 _ _ (hXS2 _ _ hl0A)).1 (fun cy => wAt_11 cy _ (hXS7 _ _ (hXS2 _ _ hl0A)).2) rfl ⟨by decide, by decide, by decide +kernel⟩ rfl rfl (Nat.le_of_ble_eq_true rfl) hk14 hn15 dX11_put_27 (fun E S' q => ⟨q.1, q.2.1, wkExt.tr (wkExt.tr (wkExt.tr hE hXS2) hXS7) q.2.2⟩) (fun v' S12 hp => ?_)
  obtain ⟨v11, rfl, h, hWS12, hXS12⟩ := hp
  refine wk_aload C dX11_put_30 rfl ?_
  refine wk_get C (v := .int (gEntry_itemCount S12 v1)) huX11_put_3 (hXS12 _ _ (hXS7 _ _ hIS2)).1 (fun cy => wAt_3 cy _ (hXS12 _ _ (hXS7 _ _ hIS2)).2) rfl 6 (by decide) (List.mem_of_getElem? (i := 8) rfl) rfl rfl dX11_put_32 ?_
  refine wk_aload C dX11_put_35 rfl ?_
  refine wk_callW C hR (As := [.ref v1]) (cnt := 1) (tX11_mostItems (l := l) hst hWS12 (hXS12 _ _ (hXS7 _ _ hIS2)) h) rfl (wkGoodW (List.mem_of_getElem? (i := 12) rfl) (List.mem_of_getElem? (i := 13) rfl) (List.mem_of_getElem? (i := 4) rfl) hbX11_put_X11_mostItems gdX11_mostItems) (Nat.le_trans (by decide : 0 + 1 ≤ 7) hd) (by decide) ⟨by decide, by decide, by decide +kernel⟩ rfl rfl (Nat.le_of_ble_eq_true rfl) hk14 hn15 dX11_put_37 (fun v' S17 hp => ?_)
  obtain ⟨v16, rfl, h, hWS17, hXS17⟩ := hp
  refine wk_icmp_lt C (tgt := 53) dX11_put_40 (by decide) (fun c21 => ?_) (fun c21 => ?_)
  · rw [if_pos c21] at h
    refine wk_aload_n C dX11_put_53 rfl rfl ?_
    refine wk_bipush C (v := 112) dX11_put_54 (by decide) ?_
    refine wk_iload_n C dX11_put_56 rfl rfl ?_
    refine wk_callV C hR (As := [.int (112 : Int32), .int l1I]) (cnt := 2) (tX11_remember (l := l) hWS17 (hXS17 _ _ (hXS12 _ _ (hXS7 _ _ (hXS2 _ _ hl0A)))) h) rfl (wkGoodV (List.mem_of_getElem? (i := 14) rfl) (List.mem_of_getElem? (i := 15) rfl) (List.mem_of_getElem? (i := 16) rfl) (List.mem_of_getElem? (i := 4) rfl) hbX11_put_X11_remember gdX11_remember) (Nat.le_trans (by decide : 2 + 1 ≤ 7) hd) (by decide) (hXS17 _ _ (hXS12 _ _ (hXS7 _ _ (hXS2 _ _ hl0A)))).1 (fun cy => wAt_11 cy _ (hXS17 _ _ (hXS12 _ _ (hXS7 _ _ (hXS2 _ _ hl0A)))).2) rfl ⟨by decide, by decide, by decide +kernel⟩ rfl rfl (Nat.le_of_ble_eq_true rfl) hk14 hn15 dX11_put_57 (fun v' S23 hp => ?_)
    obtain ⟨v22, rfl, h, hWS23, hXS23⟩ := hp
    refine wk_aload C dX11_put_60 rfl ?_
    refine wk_aload C dX11_put_62 rfl ?_
    refine wk_get C (v := .int (gEntry_itemCount S23 v1)) huX11_put_3 (hXS23 _ _ (hXS17 _ _ (hXS12 _ _ (hXS7 _ _ hIS2)))).1 (fun cy => wAt_3 cy _ (hXS23 _ _ (hXS17 _ _ (hXS12 _ _ (hXS7 _ _ hIS2)))).2) rfl 6 (by decide) (List.mem_of_getElem? (i := 8) rfl) rfl rfl dX11_put_64 ?_
    refine wk_aload_n C dX11_put_67 rfl rfl ?_
    refine wk_get C huX11_put_11 (hXS23 _ _ (hXS17 _ _ (hXS12 _ _ (hXS7 _ _ (hXS2 _ _ hl0A))))).1 (fun cy => wAt_11 cy _ (hXS23 _ _ (hXS17 _ _ (hXS12 _ _ (hXS7 _ _ (hXS2 _ _ hl0A))))).2) rfl 4 (by decide) (List.mem_of_getElem? (i := 17) rfl) rfl (congrArg some (congrArg va_rf (wf_Witnessworks_told hWS23 (hXS23 _ _ (hXS17 _ _ (hXS12 _ _ (hXS7 _ _ (hXS2 _ _ hl0A)))))).1)) dX11_put_68 ?_
    refine wk_callV C hR (As := [.int (gEntry_itemCount S23 v1), .ref (wkAd (gWitnessworks_told S23 l0A))]) (cnt := 2) (tX3_setItem (l := l) hWS23 (hXS23 _ _ (hXS17 _ _ (hXS12 _ _ (hXS7 _ _ hIS2)))) (wf_Witnessworks_told hWS23 (hXS23 _ _ (hXS17 _ _ (hXS12 _ _ (hXS7 _ _ (hXS2 _ _ hl0A)))))).2 h) rfl (wkGoodV (List.mem_of_getElem? (i := 18) rfl) (List.mem_of_getElem? (i := 19) rfl) (List.mem_of_getElem? (i := 20) rfl) (List.mem_of_getElem? (i := 21) rfl) hbX11_put_X3_setItem gdX3_setItem) (Nat.le_trans (by decide : 1 + 1 ≤ 7) hd) (by decide) (hXS23 _ _ (hXS17 _ _ (hXS12 _ _ (hXS7 _ _ hIS2)))).1 (fun cy => wAt_3 cy _ (hXS23 _ _ (hXS17 _ _ (hXS12 _ _ (hXS7 _ _ hIS2)))).2) rfl ⟨by decide, by decide, by decide +kernel⟩ rfl rfl (Nat.le_of_ble_eq_true rfl) hk14 hn15 dX11_put_71 (fun v' S28 hp => ?_)
    obtain ⟨v27, rfl, h, hWS28, hXS28⟩ := hp
    refine wk_aload C dX11_put_74 rfl ?_
    refine wk_dup C dX11_put_76 rfl ?_
    refine wk_get C (v := .int (gEntry_itemCount S28 v1)) huX11_put_3 (hXS28 _ _ (hXS23 _ _ (hXS17 _ _ (hXS12 _ _ (hXS7 _ _ hIS2))))).1 (fun cy => wAt_3 cy _ (hXS28 _ _ (hXS23 _ _ (hXS17 _ _ (hXS12 _ _ (hXS7 _ _ hIS2))))).2) rfl 6 (by decide) (List.mem_of_getElem? (i := 8) rfl) rfl rfl dX11_put_77 ?_
    refine wk_iconst C (v := 1) dX11_put_80 (by decide) ?_
    refine wk_iadd C dX11_put_81 rfl ?_
    obtain ⟨S32, eS32, h⟩ := wkLt_some h
    refine wk_put C (S' := S32) huX11_put_3 (hXS28 _ _ (hXS23 _ _ (hXS17 _ _ (hXS12 _ _ (hXS7 _ _ hIS2))))).1 (fun cy => wAt_3 cy _ (hXS28 _ _ (hXS23 _ _ (hXS17 _ _ (hXS12 _ _ (hXS7 _ _ hIS2))))).2) rfl 6 (by decide) (List.mem_of_getElem? (i := 8) rfl) rfl tyX3_ok nmX3 rfl (ty := .int) rfl rfl rfl (by show 6 < 17; decide) (fun cy b => by rw [eS32]; exact wSt_3_6 cy _ (hXS28 _ _ (hXS23 _ _ (hXS17 _ _ (hXS12 _ _ (hXS7 _ _ hIS2))))).2 _ b) (by rw [eS32]) dX11_put_82 ?_
    have hWS32 : wkWF S32 := by rw [eS32]; exact hWS28
    have hXS32 : wkExt S28 S32 := by rw [eS32]; exact wkExt.rf
    refine wk_aload C dX11_put_85 rfl ?_
    refine wk_iconst C (v := 0) dX11_put_87 (by decide) ?_
    obtain ⟨S33, eS33, h⟩ := wkLt_some h
    refine wk_put C (S' := S33) huX11_put_3 (hXS32 _ _ (hXS28 _ _ (hXS23 _ _ (hXS17 _ _ (hXS12 _ _ (hXS7 _ _ hIS2)))))).1 (fun cy => wAt_3 cy _ (hXS32 _ _ (hXS28 _ _ (hXS23 _ _ (hXS17 _ _ (hXS12 _ _ (hXS7 _ _ hIS2)))))).2) rfl 9 (by decide) (List.mem_of_getElem? (i := 22) rfl) rfl tyX3_ok nmX3 rfl (ty := .boolean) rfl rfl rfl (by show 9 < 17; decide) (fun cy b => by rw [eS33]; exact wSt_3_9 cy _ (hXS32 _ _ (hXS28 _ _ (hXS23 _ _ (hXS17 _ _ (hXS12 _ _ (hXS7 _ _ hIS2)))))).2 _ b) (by rw [eS33]) dX11_put_88 ?_
    have hWS33 : wkWF S33 := by rw [eS33]; exact hWS32
    have hXS33 : wkExt S32 S33 := by rw [eS33]; exact wkExt.rf
    refine wk_aload C dX11_put_91 rfl ?_
    refine wk_get C (v := .int (gEntry_itemCount S33 v1)) huX11_put_3 (hXS33 _ _ (hXS32 _ _ (hXS28 _ _ (hXS23 _ _ (hXS17 _ _ (hXS12 _ _ (hXS7 _ _ hIS2))))))).1 (fun cy => wAt_3 cy _ (hXS33 _ _ (hXS32 _ _ (hXS28 _ _ (hXS23 _ _ (hXS17 _ _ (hXS12 _ _ (hXS7 _ _ hIS2))))))).2) rfl 6 (by decide) (List.mem_of_getElem? (i := 8) rfl) rfl rfl dX11_put_93 ?_
    exact E _ _ _ _ _ _ hk14 hn15 dX11_put_96 ⟨(gEntry_itemCount S33 v1), rfl, h, hWS33, (wkExt.tr (wkExt.tr (wkExt.tr (wkExt.tr (wkExt.tr (wkExt.tr (wkExt.tr (wkExt.tr hE hXS2) hXS7) hXS12) hXS17) hXS23) hXS28) hXS32) hXS33)⟩
  · rw [if_neg c21] at h
    obtain ⟨t34a, t34b, h⟩ := h
    exact ET _ _ _ _ _ _ (90, 122, 94, "java/lang/IllegalStateException", "no more items") (by decide +kernel) (Nat.le_of_ble_eq_true rfl) (Or.inl ⟨dX11_put_43, dX11_put_46, dX11_put_47, dX11_put_49, dX11_put_52⟩) ⟨h, hWS17, (wkExt.tr (wkExt.tr (wkExt.tr (wkExt.tr hE hXS2) hXS7) hXS12) hXS17)⟩ t34a t34b
def wvX11_change : List Cond := .code yX11_change cX11_change 10 (some .int) :: (([.methodLink RX11 103 yX11_entryAt, .instanceMethod yX11_entryAt, .selects RX11 yX11_entryAt yX11_entryAt, .initialized RX11, .fieldLink RX11 111 "Witnessworks$Entry" "itemCount" "I", .methodLink RX11 132 yX11_testPlace, .static yX11_testPlace, .methodLink RX11 107 yX11_tellNumbers, .instanceMethod yX11_tellNumbers, .selects RX11 yX11_tellNumbers yX11_tellNumbers, .methodLink RX11 114 yX11_testItem, .instanceMethod yX11_testItem, .selects RX11 yX11_testItem yX11_testItem, .methodLink RX11 99 yX11_remember, .instanceMethod yX11_remember, .selects RX11 yX11_remember yX11_remember, .fieldLink RX11 26 "Witnessworks" "told" "[I", .methodLink RX11 136 yX3_countUnlike, .instanceMethod yX3_countUnlike, .selects RX3 yX3_countUnlike yX3_countUnlike, .initialized RX3, .methodLink RX11 124 yX3_setItem, .instanceMethod yX3_setItem, .selects RX3 yX3_setItem yX3_setItem, .fieldLink RX11 128 "Witnessworks$Entry" "isSolved" "Z"] : List Cond) ++ ((wsX30 ++ (wsX110)) ++ (wvX11_entryAt ++ (wvX11_testPlace ++ (wvX11_tellNumbers ++ (wvX11_testItem ++ (wvX11_remember ++ (wvX3_countUnlike ++ (wvX3_setItem)))))))))
theorem huX11_change_3 : ∀ w ∈ u_ws RX3 TX3 17, w ∈ wvX11_change := fun w h => List.mem_cons_of_mem _ (List.mem_append_right _ (List.mem_append_left _ (List.mem_append_left _ h)))
theorem huX11_change_11 : ∀ w ∈ u_ws RX11 TX11 19, w ∈ wvX11_change := fun w h => List.mem_cons_of_mem _ (List.mem_append_right _ (List.mem_append_left _ (List.mem_append_right _ h)))
theorem hbX11_change_X11_entryAt : ∀ w ∈ wvX11_entryAt, w ∈ wvX11_change := fun w h => List.mem_cons_of_mem _ (List.mem_append_right _ (List.mem_append_right _ (List.mem_append_left _ h)))
theorem hbX11_change_X11_testPlace : ∀ w ∈ wvX11_testPlace, w ∈ wvX11_change := fun w h => List.mem_cons_of_mem _ (List.mem_append_right _ (List.mem_append_right _ (List.mem_append_right _ (List.mem_append_left _ h))))
theorem hbX11_change_X11_tellNumbers : ∀ w ∈ wvX11_tellNumbers, w ∈ wvX11_change := fun w h => List.mem_cons_of_mem _ (List.mem_append_right _ (List.mem_append_right _ (List.mem_append_right _ (List.mem_append_right _ (List.mem_append_left _ h)))))
theorem hbX11_change_X11_testItem : ∀ w ∈ wvX11_testItem, w ∈ wvX11_change := fun w h => List.mem_cons_of_mem _ (List.mem_append_right _ (List.mem_append_right _ (List.mem_append_right _ (List.mem_append_right _ (List.mem_append_right _ (List.mem_append_left _ h))))))
theorem hbX11_change_X11_remember : ∀ w ∈ wvX11_remember, w ∈ wvX11_change := fun w h => List.mem_cons_of_mem _ (List.mem_append_right _ (List.mem_append_right _ (List.mem_append_right _ (List.mem_append_right _ (List.mem_append_right _ (List.mem_append_right _ (List.mem_append_left _ h)))))))
theorem hbX11_change_X3_countUnlike : ∀ w ∈ wvX3_countUnlike, w ∈ wvX11_change := fun w h => List.mem_cons_of_mem _ (List.mem_append_right _ (List.mem_append_right _ (List.mem_append_right _ (List.mem_append_right _ (List.mem_append_right _ (List.mem_append_right _ (List.mem_append_right _ (List.mem_append_left _ h))))))))
theorem hbX11_change_X3_setItem : ∀ w ∈ wvX3_setItem, w ∈ wvX11_change := fun w h => List.mem_cons_of_mem _ (List.mem_append_right _ (List.mem_append_right _ (List.mem_append_right _ (List.mem_append_right _ (List.mem_append_right _ (List.mem_append_right _ (List.mem_append_right _ (List.mem_append_right _ h))))))))
theorem gdX11_change : ∀ w ∈ wvX11_change, wkGd w := wkGdC rfl (wkGdA (wkGdL (by decide +kernel)) (wkGdA (wkGdA gdX3 gdX11) (wkGdA gdX11_entryAt (wkGdA gdX11_testPlace (wkGdA gdX11_tellNumbers (wkGdA gdX11_testItem (wkGdA gdX11_remember (wkGdA gdX3_countUnlike gdX3_setItem))))))))
def rX11_change (F : Nat) (k n : Nat) (l0A : Nat) (l1I : Int32) (l2I : Int32) (l3I : Int32) (l4I : Int32) (l5I : Int32) (l6I : Int32) (l7I : Int32) (S : wPS) (Φ : (Int32 → wPS → Prop)) (Ψ : String → wPS → Prop) : Prop :=
  ∃ k4 n5 : Nat, 0 + k4 ≤ k ∧ 0 + n5 ≤ n ∧ rX11_entryAt F k4 n5 l0A l1I S (fun v1 S2 => ∃ k9 n10 : Nat, (0 + k4) + k9 ≤ k ∧ (0 + n5) + n10 ≤ n ∧ rX11_testPlace F k9 n10 l2I (gEntry_itemCount S2 v1) S2 (fun v6 S7 => rX11_tellNumbers F l0A l3I l4I l5I l6I l7I S7 fun v11 S12 => ∃ k19 n20 : Nat, ((0 + k4) + k9) + k19 ≤ k ∧ ((0 + n5) + n10) + n20 ≤ n ∧ rX11_testItem F k19 n20 l0A v1 l2I S12 (fun v16 S17 => rX11_remember F l0A (99 : Int32) l1I S17 fun v21 S22 => rX3_countUnlike F v1 l2I (wkAd (gWitnessworks_told S22 l0A)) S22 fun v26 S27 => rX3_setItem F v1 l2I (wkAd (gWitnessworks_told S27 l0A)) S27 fun v31 S32 => wkLt (wu_Entry_isSolved S32 v1 (0 : Int32)) fun S36 => Φ v26 S36) Ψ) Ψ) Ψ
set_option maxHeartbeats 4000000 in
set_option maxRecDepth 100000 in
theorem tX11_change {l : Launch} {g : wkG} {F : Nat} {k n : Nat}  {S : wPS} {l0A : Nat} {l1I : Int32} {l2I : Int32} {l3I : Int32} {l4I : Int32} {l5I : Int32} {l6I : Int32} {l7I : Int32} {Φ : (Int32 → wPS → Prop)} {Ψ : String → wPS → Prop} (hex : wkExA g) (hlt : l.stackTraces = false) (hW : wkWF S) (hl0A : wkIs S l0A 11) (h : rX11_change F k n l0A l1I l2I l3I l4I l5I l6I l7I S Φ Ψ) : wkMetX l g yX11_change wvX11_change 7 k n [.ref l0A, .int l1I, .int l2I, .int l3I, .int l4I, .int l5I, .int l6I, .int l7I] S (fun v' S'' => ∃ v : Int32, v' = some (.int v) ∧ Φ v S'' ∧ wkWF S'' ∧ wkExt S S'') (fun E S'' => Ψ E S'' ∧ wkWF S'' ∧ wkExt S S'') := by
  refine wkMetX_of (ret := (some .int)) (by decide) rfl (Nat.le_of_ble_eq_true rfl) rfl hex hlt (by decide) (fun X hg C hR E EX ET => ?_)
  subst hg
  have hE : wkExt S S := wkExt.rf
  have hd : 7 ≤ 7 := Nat.le_refl _
  show wkGo l X 10 0 0 0 S [some (.ref l0A), some (.int l1I), some (.int l2I), some (.int l3I), some (.int l4I), some (.int l5I), some (.int l6I), some (.int l7I), none, none] []
  unfold rX11_change at h
  refine wk_aload_n C dX11_change_0 rfl rfl ?_
  refine wk_iload_n C dX11_change_1 rfl rfl ?_
  obtain ⟨k4, n5, hk4, hn5, h⟩ := h
  refine wk_callVX C hR EX (As := [.int l1I]) (cnt := 1) (tX11_entryAt (l := l) hex hlt hW hl0A h) rfl (wkGoodV (List.mem_of_getElem? (i := 1) rfl) (List.mem_of_getElem? (i := 2) rfl) (List.mem_of_getElem? (i := 3) rfl) (List.mem_of_getElem? (i := 4) rfl) hbX11_change_X11_entryAt gdX11_entryAt) (Nat.le_trans (by decide : 6 + 1 ≤ 7) hd) (by decide) hl0A.1 (fun cy => wAt_11 cy _ hl0A.2) rfl ⟨by decide, by decide, by decide +kernel⟩ rfl rfl (Nat.le_of_ble_eq_true rfl) hk4 hn5 dX11_change_2 (fun E S' q => ⟨q.1, q.2.1, wkExt.tr hE q.2.2⟩) (fun v' S2 hp => ?_)
  obtain ⟨v1, rfl, h, hWS2, hXS2, hIS2⟩ := hp
  refine wk_astore C (lv' := [some (.ref l0A), some (.int l1I), some (.int l2I), some (.int l3I), some (.int l4I), some (.int l5I), some (.int l6I), some (.int l7I), some (.ref v1), none]) dX11_change_5 (by decide) rfl ?_
  refine wk_iload_n C dX11_change_7 rfl rfl ?_
  refine wk_aload C dX11_change_8 rfl ?_
  refine wk_get C (v := .int (gEntry_itemCount S2 v1)) huX11_change_3 hIS2.1 (fun cy => wAt_3 cy _ hIS2.2) rfl 6 (by decide) (List.mem_of_getElem? (i := 5) rfl) rfl rfl dX11_change_10 ?_
  obtain ⟨k9, n10, hk9, hn10, h⟩ := h
  refine wk_callWX C hR EX (As := [.int l2I, .int (gEntry_itemCount S2 v1)]) (cnt := 2) (tX11_testPlace (l := l) hex hlt hWS2  h) rfl (wkGoodW (List.mem_of_getElem? (i := 6) rfl) (List.mem_of_getElem? (i := 7) rfl) (List.mem_of_getElem? (i := 4) rfl) hbX11_change_X11_testPlace gdX11_testPlace) (Nat.le_trans (by decide : 6 + 1 ≤ 7) hd) (by decide) ⟨by decide, by decide, by decide +kernel⟩ rfl rfl (Nat.le_of_ble_eq_true rfl) hk9 hn10 dX11_change_13 (fun E S' q => ⟨q.1, q.2.1, wkExt.tr (wkExt.tr hE hXS2) q.2.2⟩) (fun v' S7 hp => ?_)
  obtain ⟨v6, rfl, h, hWS7, hXS7⟩ := hp
  refine wk_aload_n C dX11_change_16 rfl rfl ?_
  refine wk_iload_n C dX11_change_17 rfl rfl ?_
  refine wk_iload C dX11_change_18 rfl ?_
  refine wk_iload C dX11_change_20 rfl ?_
  refine wk_iload C dX11_change_22 rfl ?_
  refine wk_iload C dX11_change_24 rfl ?_
  refine wk_callV C hR (As := [.int l3I, .int l4I, .int l5I, .int l6I, .int l7I]) (cnt := 5) (tX11_tellNumbers (l := l) hWS7 (hXS7 _ _ (hXS2 _ _ hl0A)) h) rfl (wkGoodV (List.mem_of_getElem? (i := 8) rfl) (List.mem_of_getElem? (i := 9) rfl) (List.mem_of_getElem? (i := 10) rfl) (List.mem_of_getElem? (i := 4) rfl) hbX11_change_X11_tellNumbers gdX11_tellNumbers) (Nat.le_trans (by decide : 0 + 1 ≤ 7) hd) (by decide) (hXS7 _ _ (hXS2 _ _ hl0A)).1 (fun cy => wAt_11 cy _ (hXS7 _ _ (hXS2 _ _ hl0A)).2) rfl ⟨by decide, by decide, by decide +kernel⟩ rfl rfl (Nat.le_of_ble_eq_true rfl) hk9 hn10 dX11_change_26 (fun v' S12 hp => ?_)
  obtain ⟨v11, rfl, h, hWS12, hXS12⟩ := hp
  refine wk_aload_n C dX11_change_29 rfl rfl ?_
  refine wk_aload C dX11_change_30 rfl ?_
  refine wk_iload_n C dX11_change_32 rfl rfl ?_
  obtain ⟨k19, n20, hk19, hn20, h⟩ := h
  refine wk_callVX C hR EX (As := [.ref v1, .int l2I]) (cnt := 2) (tX11_testItem (l := l) hex hlt hWS12 (hXS12 _ _ (hXS7 _ _ (hXS2 _ _ hl0A))) (hXS12 _ _ (hXS7 _ _ hIS2)) h) rfl (wkGoodV (List.mem_of_getElem? (i := 11) rfl) (List.mem_of_getElem? (i := 12) rfl) (List.mem_of_getElem? (i := 13) rfl) (List.mem_of_getElem? (i := 4) rfl) hbX11_change_X11_testItem gdX11_testItem) (Nat.le_trans (by decide : 6 + 1 ≤ 7) hd) (by decide) (hXS12 _ _ (hXS7 _ _ (hXS2 _ _ hl0A))).1 (fun cy => wAt_11 cy _ (hXS12 _ _ (hXS7 _ _ (hXS2 _ _ hl0A))).2) rfl ⟨by decide, by decide, by decide +kernel⟩ rfl rfl (Nat.le_of_ble_eq_true rfl) hk19 hn20 dX11_change_33 (fun E S' q => ⟨q.1, q.2.1, wkExt.tr (wkExt.tr (wkExt.tr (wkExt.tr hE hXS2) hXS7) hXS12) q.2.2⟩) (fun v' S17 hp => ?_)
  obtain ⟨v16, rfl, h, hWS17, hXS17⟩ := hp
  refine wk_aload_n C dX11_change_36 rfl rfl ?_
  refine wk_bipush C (v := 99) dX11_change_37 (by decide) ?_
  refine wk_iload_n C dX11_change_39 rfl rfl ?_
  refine wk_callV C hR (As := [.int (99 : Int32), .int l1I]) (cnt := 2) (tX11_remember (l := l) hWS17 (hXS17 _ _ (hXS12 _ _ (hXS7 _ _ (hXS2 _ _ hl0A)))) h) rfl (wkGoodV (List.mem_of_getElem? (i := 14) rfl) (List.mem_of_getElem? (i := 15) rfl) (List.mem_of_getElem? (i := 16) rfl) (List.mem_of_getElem? (i := 4) rfl) hbX11_change_X11_remember gdX11_remember) (Nat.le_trans (by decide : 2 + 1 ≤ 7) hd) (by decide) (hXS17 _ _ (hXS12 _ _ (hXS7 _ _ (hXS2 _ _ hl0A)))).1 (fun cy => wAt_11 cy _ (hXS17 _ _ (hXS12 _ _ (hXS7 _ _ (hXS2 _ _ hl0A)))).2) rfl ⟨by decide, by decide, by decide +kernel⟩ rfl rfl (Nat.le_of_ble_eq_true rfl) hk19 hn20 dX11_change_40 (fun v' S22 hp => ?_)
  obtain ⟨v21, rfl, h, hWS22, hXS22⟩ := hp
  refine wk_aload C dX11_change_43 rfl ?_
  refine wk_iload_n C dX11_change_45 rfl rfl ?_
  refine wk_aload_n C dX11_change_46 rfl rfl ?_
  refine wk_get C huX11_change_11 (hXS22 _ _ (hXS17 _ _ (hXS12 _ _ (hXS7 _ _ (hXS2 _ _ hl0A))))).1 (fun cy => wAt_11 cy _ (hXS22 _ _ (hXS17 _ _ (hXS12 _ _ (hXS7 _ _ (hXS2 _ _ hl0A))))).2) rfl 4 (by decide) (List.mem_of_getElem? (i := 17) rfl) rfl (congrArg some (congrArg va_rf (wf_Witnessworks_told hWS22 (hXS22 _ _ (hXS17 _ _ (hXS12 _ _ (hXS7 _ _ (hXS2 _ _ hl0A)))))).1)) dX11_change_47 ?_
  refine wk_callV C hR (As := [.int l2I, .ref (wkAd (gWitnessworks_told S22 l0A))]) (cnt := 2) (tX3_countUnlike (l := l) hWS22 (hXS22 _ _ (hXS17 _ _ (hXS12 _ _ (hXS7 _ _ hIS2)))) (wf_Witnessworks_told hWS22 (hXS22 _ _ (hXS17 _ _ (hXS12 _ _ (hXS7 _ _ (hXS2 _ _ hl0A)))))).2 h) rfl (wkGoodV (List.mem_of_getElem? (i := 18) rfl) (List.mem_of_getElem? (i := 19) rfl) (List.mem_of_getElem? (i := 20) rfl) (List.mem_of_getElem? (i := 21) rfl) hbX11_change_X3_countUnlike gdX3_countUnlike) (Nat.le_trans (by decide : 1 + 1 ≤ 7) hd) (by decide) (hXS22 _ _ (hXS17 _ _ (hXS12 _ _ (hXS7 _ _ hIS2)))).1 (fun cy => wAt_3 cy _ (hXS22 _ _ (hXS17 _ _ (hXS12 _ _ (hXS7 _ _ hIS2)))).2) rfl ⟨by decide, by decide, by decide +kernel⟩ rfl rfl (Nat.le_of_ble_eq_true rfl) hk19 hn20 dX11_change_50 (fun v' S27 hp => ?_)
  obtain ⟨v26, rfl, h, hWS27, hXS27⟩ := hp
  refine wk_istore C (lv' := [some (.ref l0A), some (.int l1I), some (.int l2I), some (.int l3I), some (.int l4I), some (.int l5I), some (.int l6I), some (.int l7I), some (.ref v1), some (.int v26)]) dX11_change_53 (by decide) rfl ?_
  refine wk_aload C dX11_change_55 rfl ?_
  refine wk_iload_n C dX11_change_57 rfl rfl ?_
  refine wk_aload_n C dX11_change_58 rfl rfl ?_
  refine wk_get C huX11_change_11 (hXS27 _ _ (hXS22 _ _ (hXS17 _ _ (hXS12 _ _ (hXS7 _ _ (hXS2 _ _ hl0A)))))).1 (fun cy => wAt_11 cy _ (hXS27 _ _ (hXS22 _ _ (hXS17 _ _ (hXS12 _ _ (hXS7 _ _ (hXS2 _ _ hl0A)))))).2) rfl 4 (by decide) (List.mem_of_getElem? (i := 17) rfl) rfl (congrArg some (congrArg va_rf (wf_Witnessworks_told hWS27 (hXS27 _ _ (hXS22 _ _ (hXS17 _ _ (hXS12 _ _ (hXS7 _ _ (hXS2 _ _ hl0A))))))).1)) dX11_change_59 ?_
  refine wk_callV C hR (As := [.int l2I, .ref (wkAd (gWitnessworks_told S27 l0A))]) (cnt := 2) (tX3_setItem (l := l) hWS27 (hXS27 _ _ (hXS22 _ _ (hXS17 _ _ (hXS12 _ _ (hXS7 _ _ hIS2))))) (wf_Witnessworks_told hWS27 (hXS27 _ _ (hXS22 _ _ (hXS17 _ _ (hXS12 _ _ (hXS7 _ _ (hXS2 _ _ hl0A))))))).2 h) rfl (wkGoodV (List.mem_of_getElem? (i := 22) rfl) (List.mem_of_getElem? (i := 23) rfl) (List.mem_of_getElem? (i := 24) rfl) (List.mem_of_getElem? (i := 21) rfl) hbX11_change_X3_setItem gdX3_setItem) (Nat.le_trans (by decide : 1 + 1 ≤ 7) hd) (by decide) (hXS27 _ _ (hXS22 _ _ (hXS17 _ _ (hXS12 _ _ (hXS7 _ _ hIS2))))).1 (fun cy => wAt_3 cy _ (hXS27 _ _ (hXS22 _ _ (hXS17 _ _ (hXS12 _ _ (hXS7 _ _ hIS2))))).2) rfl ⟨by decide, by decide, by decide +kernel⟩ rfl rfl (Nat.le_of_ble_eq_true rfl) hk19 hn20 dX11_change_62 (fun v' S32 hp => ?_)
  obtain ⟨v31, rfl, h, hWS32, hXS32⟩ := hp
  refine wk_aload C dX11_change_65 rfl ?_
  refine wk_iconst C (v := 0) dX11_change_67 (by decide) ?_
  obtain ⟨S36, eS36, h⟩ := wkLt_some h
  refine wk_put C (S' := S36) huX11_change_3 (hXS32 _ _ (hXS27 _ _ (hXS22 _ _ (hXS17 _ _ (hXS12 _ _ (hXS7 _ _ hIS2)))))).1 (fun cy => wAt_3 cy _ (hXS32 _ _ (hXS27 _ _ (hXS22 _ _ (hXS17 _ _ (hXS12 _ _ (hXS7 _ _ hIS2)))))).2) rfl 9 (by decide) (List.mem_of_getElem? (i := 25) rfl) rfl tyX3_ok nmX3 rfl (ty := .boolean) rfl rfl rfl (by show 9 < 17; decide) (fun cy b => by rw [eS36]; exact wSt_3_9 cy _ (hXS32 _ _ (hXS27 _ _ (hXS22 _ _ (hXS17 _ _ (hXS12 _ _ (hXS7 _ _ hIS2)))))).2 _ b) (by rw [eS36]) dX11_change_68 ?_
  have hWS36 : wkWF S36 := by rw [eS36]; exact hWS32
  have hXS36 : wkExt S32 S36 := by rw [eS36]; exact wkExt.rf
  refine wk_iload C dX11_change_71 rfl ?_
  exact E _ _ _ _ _ _ hk19 hn20 dX11_change_73 ⟨v26, rfl, h, hWS36, (wkExt.tr (wkExt.tr (wkExt.tr (wkExt.tr (wkExt.tr (wkExt.tr (wkExt.tr (wkExt.tr hE hXS2) hXS7) hXS12) hXS17) hXS22) hXS27) hXS32) hXS36)⟩
def wvX1_solve : List Cond := .code yX1_solve cX1_solve 5 none :: (([.methodLink RX1 36 yX3_tell, .instanceMethod yX3_tell, .selects RX3 yX3_tell yX3_tell, .initialized RX3, .fieldLink RX1 28 "Witnessworks$Entry" "row" "LWitnessworks$Row;", .methodLink RX1 40 yX1_goThrough, .instanceMethod yX1_goThrough, .selects RX1 yX1_goThrough yX1_goThrough, .initialized RX1, .methodLink RX1 24 yX1_isFulfilled, .instanceMethod yX1_isFulfilled, .selects RX1 yX1_isFulfilled yX1_isFulfilled, .methodLink RX1 32 yX1_writeTruths, .static yX1_writeTruths, .fieldLink RX1 18 "Witnessworks$Entry" "size" "I"] : List Cond) ++ ((wsX30) ++ (wvX3_tell ++ (wvX1_goThrough ++ (wvX1_isFulfilled ++ (wvX1_writeTruths))))))
theorem huX1_solve_3 : ∀ w ∈ u_ws RX3 TX3 17, w ∈ wvX1_solve := fun w h => List.mem_cons_of_mem _ (List.mem_append_right _ (List.mem_append_left _ h))
theorem hbX1_solve_X3_tell : ∀ w ∈ wvX3_tell, w ∈ wvX1_solve := fun w h => List.mem_cons_of_mem _ (List.mem_append_right _ (List.mem_append_right _ (List.mem_append_left _ h)))
theorem hbX1_solve_X1_goThrough : ∀ w ∈ wvX1_goThrough, w ∈ wvX1_solve := fun w h => List.mem_cons_of_mem _ (List.mem_append_right _ (List.mem_append_right _ (List.mem_append_right _ (List.mem_append_left _ h))))
theorem hbX1_solve_X1_isFulfilled : ∀ w ∈ wvX1_isFulfilled, w ∈ wvX1_solve := fun w h => List.mem_cons_of_mem _ (List.mem_append_right _ (List.mem_append_right _ (List.mem_append_right _ (List.mem_append_right _ (List.mem_append_left _ h)))))
theorem hbX1_solve_X1_writeTruths : ∀ w ∈ wvX1_writeTruths, w ∈ wvX1_solve := fun w h => List.mem_cons_of_mem _ (List.mem_append_right _ (List.mem_append_right _ (List.mem_append_right _ (List.mem_append_right _ (List.mem_append_right _ h)))))
theorem gdX1_solve : ∀ w ∈ wvX1_solve, wkGd w := wkGdC rfl (wkGdA (wkGdL (by decide +kernel)) (wkGdA gdX3 (wkGdA gdX3_tell (wkGdA gdX1_goThrough (wkGdA gdX1_isFulfilled gdX1_writeTruths)))))
def rX1_solve_b0 (F : Nat) (k n : Nat) (rec : Nat → Nat → Nat → Nat → Nat → Int32 → Int32 → Int32 → wPS → (Unit → wPS → Prop) → Prop) (c s : Nat) (l0A : Nat) (l1A : Nat) (l2I : Int32) (l3I : Int32) (l4I : Int32) (S : wPS) (Φ : (Unit → wPS → Prop)) : Prop :=
  if ((1 : Int32) <<< (l2I &&& 31)) ≤ l4I then (if l3I ≤ 0 then (rX3_tell F l1A (0 : Int32) l3I S fun v3 S4 => if l3I = 0 then (∃ k12 n13 : Nat, c + k12 ≤ k ∧ s + n13 ≤ n ∧ rX1_goThrough F k12 n13 l0A l1A (wkAd (gEntry_row S4 l1A)) S4 fun v9 S10 => Φ () S10) else (Φ () S4)) else (rX3_tell F l1A (1 : Int32) l3I S fun v14 S15 => if l3I = 0 then (∃ k23 n24 : Nat, c + k23 ≤ k ∧ s + n24 ≤ n ∧ rX1_goThrough F k23 n24 l0A l1A (wkAd (gEntry_row S15 l1A)) S15 fun v20 S21 => Φ () S21) else (Φ () S15))) else (rX1_isFulfilled F l0A l1A l4I S fun v25 S26 => if v25 = 0 then (wkLt (l4I + (1 : Int32)) fun x31 => rec 0 c s l0A l1A l2I l3I x31 S26 Φ) else (if l3I = 0 then (∃ k38 n39 : Nat, c + k38 ≤ k ∧ s + n39 ≤ n ∧ rX1_writeTruths F k38 n39 l4I l2I (wkAd (gEntry_row S26 l1A)) S26 fun v35 S36 => wkLt (l3I + (1 : Int32)) fun x40 => wkLt (l4I + (1 : Int32)) fun x41 => rec 0 (c + k38) (s + n39) l0A l1A l2I x40 x41 S36 Φ) else (wkLt (l3I + (1 : Int32)) fun x33 => wkLt (l4I + (1 : Int32)) fun x34 => rec 0 c s l0A l1A l2I x33 x34 S26 Φ)))
def rX1_solve_go (F : Nat) (k n : Nat) : Nat → Nat → Nat → Nat → Nat → Nat → Int32 → Int32 → Int32 → wPS → (Unit → wPS → Prop) → Prop
  | 0, _, _, _, _, _, _, _, _, _, _ => False
  | k' + 1, lab, c, s, l0A, l1A, l2I, l3I, l4I, S, Φ => if lab = 0 then rX1_solve_b0 F k n (rX1_solve_go F k n k') c s l0A l1A l2I l3I l4I S Φ else False
def rX1_solve_s (F : Nat) (k n : Nat) (rec : Nat → Nat → Nat → Nat → Nat → Int32 → Int32 → Int32 → wPS → (Unit → wPS → Prop) → Prop) (l0A : Nat) (l1A : Nat) (S : wPS) (Φ : (Unit → wPS → Prop)) : Prop :=
  wkLt ((gEntry_size S l1A)) fun x42 => rec 0 0 0 l0A l1A x42 (0 : Int32) (0 : Int32) S Φ
def rX1_solve (F : Nat) (k n : Nat) (l0A : Nat) (l1A : Nat) (S : wPS) (Φ : (Unit → wPS → Prop)) : Prop := rX1_solve_s F k n (rX1_solve_go F k n F) l0A l1A S Φ
set_option maxHeartbeats 4000000 in
set_option maxRecDepth 100000 in
theorem tX1_solve_go {k n : Nat} {l : Launch} {X : wkX} {d F : Nat} {S0 : wPS} {Φ : (Unit → wPS → Prop)} (C : wkC X cX1_solve RX1 5 wvX1_solve) (hR : wkRm X d k n) (hd : 4 ≤ d) (E : wkEnd l X cX1_solve 5 none k n (fun v' S'' => ∃ v : Unit, v' = none ∧ Φ v S'' ∧ wkWF S'' ∧ wkExt S0 S'')) : ∀ k' : Nat, (∀ (c s : Nat), c ≤ k → s ≤ n → ∀ (l0A : Nat) (l1A : Nat) (l2I : Int32) (l3I : Int32) (l4I : Int32) (S : wPS), wkWF S → wkExt S0 S → wkIs S l0A 1 → wkIs S l1A 3 → rX1_solve_go F k n k' 0 c s l0A l1A l2I l3I l4I S Φ → wkGo l X 5 c s 10 S [some (.ref l0A), some (.ref l1A), some (.int l2I), some (.int l3I), some (.int l4I)] []) := by
  intro k'
  induction k' with
  | zero => exact fun c s hc hs l0A l1A l2I l3I l4I S hW hE hl0A hl1A h => h.elim
  | succ k' ih =>
    · intro c s hc hs l0A l1A l2I l3I l4I S hW hE hl0A hl1A h
      have h : rX1_solve_b0 F k n (rX1_solve_go F k n k') c s l0A l1A l2I l3I l4I S Φ := by
        rw [rX1_solve_go, if_pos (rfl : (0 : Nat) = 0)] at h
        exact h
      unfold rX1_solve_b0 at h
      refine wk_iload C dX1_solve_10 rfl ?_
      refine wk_iconst C (v := 1) dX1_solve_12 (by decide) ?_
      refine wk_iload_n C dX1_solve_13 rfl rfl ?_
      refine wk_ishl C dX1_solve_14 rfl ?_
      refine wk_icmp_ge C (tgt := 51) dX1_solve_15 (by decide) (fun c1 => ?_) (fun c1 => ?_)
      · rw [if_pos c1] at h
        refine wk_aload_n C dX1_solve_51 rfl rfl ?_
        refine wk_iload_n C dX1_solve_52 rfl rfl ?_
        refine wk_if_le C (tgt := 60) dX1_solve_53 (by decide) (fun c2 => ?_) (fun c2 => ?_)
        · rw [if_pos c2] at h
          refine wk_iconst C (v := 0) dX1_solve_60 (by decide) ?_
          refine wk_iload_n C dX1_solve_61 rfl rfl ?_
          refine wk_callV C hR (As := [.int (0 : Int32), .int l3I]) (cnt := 2) (tX3_tell (l := l) hW hl1A h) rfl (wkGoodV (List.mem_of_getElem? (i := 1) rfl) (List.mem_of_getElem? (i := 2) rfl) (List.mem_of_getElem? (i := 3) rfl) (List.mem_of_getElem? (i := 4) rfl) hbX1_solve_X3_tell gdX3_tell) (Nat.le_trans (by decide : 0 + 1 ≤ 4) hd) (by decide) hl1A.1 (fun cy => wAt_3 cy _ hl1A.2) rfl ⟨by decide, by decide, by decide +kernel⟩ rfl rfl (Nat.le_of_ble_eq_true rfl) hc hs dX1_solve_62 (fun v' S4 hp => ?_)
          obtain ⟨v3, rfl, h, hWS4, hXS4⟩ := hp
          refine wk_iload_n C dX1_solve_65 rfl rfl ?_
          refine wk_if_ne C (tgt := 78) dX1_solve_66 (by decide) (fun c8 => ?_) (fun c8 => ?_)
          · rw [if_neg c8] at h
            exact E _ _ _ _ _ hc hs dX1_solve_78 ⟨(), rfl, h, hWS4, (wkExt.tr hE hXS4)⟩
          · rw [if_pos c8] at h
            refine wk_aload_n C dX1_solve_69 rfl rfl ?_
            refine wk_aload_n C dX1_solve_70 rfl rfl ?_
            refine wk_aload_n C dX1_solve_71 rfl rfl ?_
            refine wk_get C huX1_solve_3 (hXS4 _ _ hl1A).1 (fun cy => wAt_3 cy _ (hXS4 _ _ hl1A).2) rfl 13 (by decide) (List.mem_of_getElem? (i := 5) rfl) rfl (congrArg some (congrArg va_rf (wf_Entry_row hWS4 (hXS4 _ _ hl1A)).1)) dX1_solve_72 ?_
            obtain ⟨k12, n13, hk12, hn13, h⟩ := h
            refine wk_callV C hR (As := [.ref l1A, .ref (wkAd (gEntry_row S4 l1A))]) (cnt := 2) (tX1_goThrough (l := l) hWS4 (hXS4 _ _ hl0A) (hXS4 _ _ hl1A) (wf_Entry_row hWS4 (hXS4 _ _ hl1A)).2 h) rfl (wkGoodV (List.mem_of_getElem? (i := 6) rfl) (List.mem_of_getElem? (i := 7) rfl) (List.mem_of_getElem? (i := 8) rfl) (List.mem_of_getElem? (i := 9) rfl) hbX1_solve_X1_goThrough gdX1_goThrough) (Nat.le_trans (by decide : 3 + 1 ≤ 4) hd) (by decide) (hXS4 _ _ hl0A).1 (fun cy => wAt_1 cy _ (hXS4 _ _ hl0A).2) rfl ⟨by decide, by decide, by decide +kernel⟩ rfl rfl (Nat.le_of_ble_eq_true rfl) hk12 hn13 dX1_solve_75 (fun v' S10 hp => ?_)
            obtain ⟨v9, rfl, h, hWS10, hXS10⟩ := hp
            exact E _ _ _ _ _ hk12 hn13 dX1_solve_78 ⟨(), rfl, h, hWS10, (wkExt.tr (wkExt.tr hE hXS4) hXS10)⟩
        · rw [if_neg c2] at h
          refine wk_iconst C (v := 1) dX1_solve_56 (by decide) ?_
          refine wk_goto C (tgt := 61) dX1_solve_57 (by decide) ?_
          refine wk_iload_n C dX1_solve_61 rfl rfl ?_
          refine wk_callV C hR (As := [.int (1 : Int32), .int l3I]) (cnt := 2) (tX3_tell (l := l) hW hl1A h) rfl (wkGoodV (List.mem_of_getElem? (i := 1) rfl) (List.mem_of_getElem? (i := 2) rfl) (List.mem_of_getElem? (i := 3) rfl) (List.mem_of_getElem? (i := 4) rfl) hbX1_solve_X3_tell gdX3_tell) (Nat.le_trans (by decide : 0 + 1 ≤ 4) hd) (by decide) hl1A.1 (fun cy => wAt_3 cy _ hl1A.2) rfl ⟨by decide, by decide, by decide +kernel⟩ rfl rfl (Nat.le_of_ble_eq_true rfl) hc hs dX1_solve_62 (fun v' S15 hp => ?_)
          obtain ⟨v14, rfl, h, hWS15, hXS15⟩ := hp
          refine wk_iload_n C dX1_solve_65 rfl rfl ?_
          refine wk_if_ne C (tgt := 78) dX1_solve_66 (by decide) (fun c19 => ?_) (fun c19 => ?_)
          · rw [if_neg c19] at h
            exact E _ _ _ _ _ hc hs dX1_solve_78 ⟨(), rfl, h, hWS15, (wkExt.tr hE hXS15)⟩
          · rw [if_pos c19] at h
            refine wk_aload_n C dX1_solve_69 rfl rfl ?_
            refine wk_aload_n C dX1_solve_70 rfl rfl ?_
            refine wk_aload_n C dX1_solve_71 rfl rfl ?_
            refine wk_get C huX1_solve_3 (hXS15 _ _ hl1A).1 (fun cy => wAt_3 cy _ (hXS15 _ _ hl1A).2) rfl 13 (by decide) (List.mem_of_getElem? (i := 5) rfl) rfl (congrArg some (congrArg va_rf (wf_Entry_row hWS15 (hXS15 _ _ hl1A)).1)) dX1_solve_72 ?_
            obtain ⟨k23, n24, hk23, hn24, h⟩ := h
            refine wk_callV C hR (As := [.ref l1A, .ref (wkAd (gEntry_row S15 l1A))]) (cnt := 2) (tX1_goThrough (l := l) hWS15 (hXS15 _ _ hl0A) (hXS15 _ _ hl1A) (wf_Entry_row hWS15 (hXS15 _ _ hl1A)).2 h) rfl (wkGoodV (List.mem_of_getElem? (i := 6) rfl) (List.mem_of_getElem? (i := 7) rfl) (List.mem_of_getElem? (i := 8) rfl) (List.mem_of_getElem? (i := 9) rfl) hbX1_solve_X1_goThrough gdX1_goThrough) (Nat.le_trans (by decide : 3 + 1 ≤ 4) hd) (by decide) (hXS15 _ _ hl0A).1 (fun cy => wAt_1 cy _ (hXS15 _ _ hl0A).2) rfl ⟨by decide, by decide, by decide +kernel⟩ rfl rfl (Nat.le_of_ble_eq_true rfl) hk23 hn24 dX1_solve_75 (fun v' S21 hp => ?_)
            obtain ⟨v20, rfl, h, hWS21, hXS21⟩ := hp
            exact E _ _ _ _ _ hk23 hn24 dX1_solve_78 ⟨(), rfl, h, hWS21, (wkExt.tr (wkExt.tr hE hXS15) hXS21)⟩
      · rw [if_neg c1] at h
        refine wk_aload_n C dX1_solve_18 rfl rfl ?_
        refine wk_aload_n C dX1_solve_19 rfl rfl ?_
        refine wk_iload C dX1_solve_20 rfl ?_
        refine wk_callV C hR (As := [.ref l1A, .int l4I]) (cnt := 2) (tX1_isFulfilled (l := l) hW hl0A hl1A h) rfl (wkGoodV (List.mem_of_getElem? (i := 10) rfl) (List.mem_of_getElem? (i := 11) rfl) (List.mem_of_getElem? (i := 12) rfl) (List.mem_of_getElem? (i := 9) rfl) hbX1_solve_X1_isFulfilled gdX1_isFulfilled) (Nat.le_trans (by decide : 3 + 1 ≤ 4) hd) (by decide) hl0A.1 (fun cy => wAt_1 cy _ hl0A.2) rfl ⟨by decide, by decide, by decide +kernel⟩ rfl rfl (Nat.le_of_ble_eq_true rfl) hc hs dX1_solve_22 (fun v' S26 hp => ?_)
        obtain ⟨v25, rfl, h, hWS26, hXS26⟩ := hp
        refine wk_if_eq C (tgt := 45) dX1_solve_25 (by decide) (fun c30 => ?_) (fun c30 => ?_)
        · rw [if_pos c30] at h
          obtain ⟨x31, ex31, h⟩ := wkLt_some h
          refine wk_iinc C (lv' := [some (.ref l0A), some (.ref l1A), some (.int l2I), some (.int l3I), some (.int x31)]) dX1_solve_45 rfl (by rw [ex31]; rfl) (by decide) rfl ?_
          refine wk_goto C (tgt := 10) dX1_solve_48 (by decide) ?_
          exact wk_forget (lv' := [some (.ref l0A), some (.ref l1A), some (.int l2I), some (.int l3I), some (.int x31)]) (wkLs.le ⟨rfl, rfl, rfl, rfl, rfl, trivial⟩) (ih _ _ hc hs _ _ _ _ _ _ hWS26 (wkExt.tr hE hXS26) (hXS26 _ _ hl0A) (hXS26 _ _ hl1A) h)
        · rw [if_neg c30] at h
          refine wk_iload_n C dX1_solve_28 rfl rfl ?_
          refine wk_if_ne C (tgt := 42) dX1_solve_29 (by decide) (fun c32 => ?_) (fun c32 => ?_)
          · rw [if_neg c32] at h
            obtain ⟨x33, ex33, h⟩ := wkLt_some h
            refine wk_iinc C (lv' := [some (.ref l0A), some (.ref l1A), some (.int l2I), some (.int x33), some (.int l4I)]) dX1_solve_42 rfl (by rw [ex33]; rfl) (by decide) rfl ?_
            obtain ⟨x34, ex34, h⟩ := wkLt_some h
            refine wk_iinc C (lv' := [some (.ref l0A), some (.ref l1A), some (.int l2I), some (.int x33), some (.int x34)]) dX1_solve_45 rfl (by rw [ex34]; rfl) (by decide) rfl ?_
            refine wk_goto C (tgt := 10) dX1_solve_48 (by decide) ?_
            exact wk_forget (lv' := [some (.ref l0A), some (.ref l1A), some (.int l2I), some (.int x33), some (.int x34)]) (wkLs.le ⟨rfl, rfl, rfl, rfl, rfl, trivial⟩) (ih _ _ hc hs _ _ _ _ _ _ hWS26 (wkExt.tr hE hXS26) (hXS26 _ _ hl0A) (hXS26 _ _ hl1A) h)
          · rw [if_pos c32] at h
            refine wk_iload C dX1_solve_32 rfl ?_
            refine wk_iload_n C dX1_solve_34 rfl rfl ?_
            refine wk_aload_n C dX1_solve_35 rfl rfl ?_
            refine wk_get C huX1_solve_3 (hXS26 _ _ hl1A).1 (fun cy => wAt_3 cy _ (hXS26 _ _ hl1A).2) rfl 13 (by decide) (List.mem_of_getElem? (i := 5) rfl) rfl (congrArg some (congrArg va_rf (wf_Entry_row hWS26 (hXS26 _ _ hl1A)).1)) dX1_solve_36 ?_
            obtain ⟨k38, n39, hk38, hn39, h⟩ := h
            refine wk_callW C hR (As := [.int l4I, .int l2I, .ref (wkAd (gEntry_row S26 l1A))]) (cnt := 3) (tX1_writeTruths (l := l) hWS26 (wf_Entry_row hWS26 (hXS26 _ _ hl1A)).2 h) rfl (wkGoodW (List.mem_of_getElem? (i := 13) rfl) (List.mem_of_getElem? (i := 14) rfl) (List.mem_of_getElem? (i := 9) rfl) hbX1_solve_X1_writeTruths gdX1_writeTruths) (Nat.le_trans (by decide : 3 + 1 ≤ 4) hd) (by decide) ⟨by decide, by decide, by decide +kernel⟩ rfl rfl (Nat.le_of_ble_eq_true rfl) hk38 hn39 dX1_solve_39 (fun v' S36 hp => ?_)
            obtain ⟨v35, rfl, h, hWS36, hXS36⟩ := hp
            obtain ⟨x40, ex40, h⟩ := wkLt_some h
            refine wk_iinc C (lv' := [some (.ref l0A), some (.ref l1A), some (.int l2I), some (.int x40), some (.int l4I)]) dX1_solve_42 rfl (by rw [ex40]; rfl) (by decide) rfl ?_
            obtain ⟨x41, ex41, h⟩ := wkLt_some h
            refine wk_iinc C (lv' := [some (.ref l0A), some (.ref l1A), some (.int l2I), some (.int x40), some (.int x41)]) dX1_solve_45 rfl (by rw [ex41]; rfl) (by decide) rfl ?_
            refine wk_goto C (tgt := 10) dX1_solve_48 (by decide) ?_
            exact wk_forget (lv' := [some (.ref l0A), some (.ref l1A), some (.int l2I), some (.int x40), some (.int x41)]) (wkLs.le ⟨rfl, rfl, rfl, rfl, rfl, trivial⟩) (ih _ _ hk38 hn39 _ _ _ _ _ _ hWS36 (wkExt.tr (wkExt.tr hE hXS26) hXS36) (hXS36 _ _ (hXS26 _ _ hl0A)) (hXS36 _ _ (hXS26 _ _ hl1A)) h)
set_option maxHeartbeats 4000000 in
set_option maxRecDepth 100000 in
theorem tX1_solve {l : Launch} {g : wkG} {F : Nat} {k n : Nat}  {S : wPS} {l0A : Nat} {l1A : Nat} {Φ : (Unit → wPS → Prop)} (hW : wkWF S) (hl0A : wkIs S l0A 1) (hl1A : wkIs S l1A 3) (h : rX1_solve F k n l0A l1A S Φ) : wkMet l g yX1_solve wvX1_solve 4 k n [.ref l0A, .ref l1A] S (fun v' S'' => ∃ v : Unit, v' = none ∧ Φ v S'' ∧ wkWF S'' ∧ wkExt S S'') := by
  refine wkMet_of (ret := none) (by decide) rfl (Nat.le_of_ble_eq_true rfl) (fun X hg C hR E => ?_)
  subst hg
  have hE : wkExt S S := wkExt.rf
  have hd : 4 ≤ 4 := Nat.le_refl _
  show wkGo l X 5 0 0 0 S [some (.ref l0A), some (.ref l1A), none, none, none] []
  have ih := tX1_solve_go (F := F) C hR hd E F
  have h : rX1_solve_s F k n (rX1_solve_go F k n F) l0A l1A S Φ := h
  unfold rX1_solve_s at h
  refine wk_aload_n C dX1_solve_0 rfl rfl ?_
  refine wk_get C (v := .int (gEntry_size S l1A)) huX1_solve_3 hl1A.1 (fun cy => wAt_3 cy _ hl1A.2) rfl 1 (by decide) (List.mem_of_getElem? (i := 15) rfl) rfl rfl dX1_solve_1 ?_
  obtain ⟨x42, ex42, h⟩ := wkLt_some h
  refine wk_topi ex42 ?_
  refine wk_istore_n C (lv' := [some (.ref l0A), some (.ref l1A), some (.int x42), none, none]) dX1_solve_4 rfl (by decide) rfl ?_
  refine wk_iconst C (v := 0) dX1_solve_5 (by decide) ?_
  refine wk_istore_n C (lv' := [some (.ref l0A), some (.ref l1A), some (.int x42), some (.int (0 : Int32)), none]) dX1_solve_6 rfl (by decide) rfl ?_
  refine wk_iconst C (v := 0) dX1_solve_7 (by decide) ?_
  refine wk_istore C (lv' := [some (.ref l0A), some (.ref l1A), some (.int x42), some (.int (0 : Int32)), some (.int (0 : Int32))]) dX1_solve_8 (by decide) rfl ?_
  exact wk_forget (lv' := [some (.ref l0A), some (.ref l1A), some (.int x42), some (.int (0 : Int32)), some (.int (0 : Int32))]) (wkLs.le ⟨rfl, rfl, rfl, rfl, rfl, trivial⟩) (ih _ _ (Nat.zero_le _) (Nat.zero_le _) _ _ _ _ _ _ hW hE hl0A hl1A h)
