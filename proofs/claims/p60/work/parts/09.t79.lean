def wvX11_put : List Cond := .code yX11_put cX11_put 8 (some .int) :: (([.methodLink RX11 103 yX11_entryAt, .instanceMethod yX11_entryAt, .selects RX11 yX11_entryAt yX11_entryAt, .initialized RX11, .methodLink RX11 107 yX11_tellNumbers, .instanceMethod yX11_tellNumbers, .selects RX11 yX11_tellNumbers yX11_tellNumbers, .fieldLink RX11 111 "Witnessworks$Entry" "itemCount" "I", .methodLink RX11 114 yX11_testItem, .instanceMethod yX11_testItem, .selects RX11 yX11_testItem yX11_testItem, .methodLink RX11 118 yX11_mostItems, .static yX11_mostItems, .methodLink RX11 99 yX11_remember, .instanceMethod yX11_remember, .selects RX11 yX11_remember yX11_remember, .fieldLink RX11 26 "Witnessworks" "told" "[I", .methodLink RX11 124 yX3_setItem, .instanceMethod yX3_setItem, .selects RX3 yX3_setItem yX3_setItem, .initialized RX3, .fieldLink RX11 128 "Witnessworks$Entry" "isSolved" "Z"] : List Cond) ++ ((wsX30 ++ (wsX110)) ++ (wvX11_entryAt ++ (wvX11_tellNumbers ++ (wvX11_testItem ++ (wvX11_mostItems ++ (wvX11_remember ++ (wvX3_setItem))))))))
theorem huX11_put_3 : ∀ w ∈ u_ws RX3 TX3 17, w ∈ wvX11_put := fun w h => List.mem_cons_of_mem _ (List.mem_append_right _ (List.mem_append_left _ (List.mem_append_left _ h)))
theorem huX11_put_11 : ∀ w ∈ u_ws RX11 TX11 19, w ∈ wvX11_put := fun w h => List.mem_cons_of_mem _ (List.mem_append_right _ (List.mem_append_left _ (List.mem_append_right _ h)))
theorem hbX11_put_X11_entryAt : ∀ w ∈ wvX11_entryAt, w ∈ wvX11_put := fun w h => List.mem_cons_of_mem _ (List.mem_append_right _ (List.mem_append_right _ (List.mem_append_left _ h)))
theorem hbX11_put_X11_tellNumbers : ∀ w ∈ wvX11_tellNumbers, w ∈ wvX11_put := fun w h => List.mem_cons_of_mem _ (List.mem_append_right _ (List.mem_append_right _ (List.mem_append_right _ (List.mem_append_left _ h))))
theorem hbX11_put_X11_testItem : ∀ w ∈ wvX11_testItem, w ∈ wvX11_put := fun w h => List.mem_cons_of_mem _ (List.mem_append_right _ (List.mem_append_right _ (List.mem_append_right _ (List.mem_append_right _ (List.mem_append_left _ h)))))
theorem hbX11_put_X11_mostItems : ∀ w ∈ wvX11_mostItems, w ∈ wvX11_put := fun w h => List.mem_cons_of_mem _ (List.mem_append_right _ (List.mem_append_right _ (List.mem_append_right _ (List.mem_append_right _ (List.mem_append_right _ (List.mem_append_left _ h))))))
theorem hbX11_put_X11_remember : ∀ w ∈ wvX11_remember, w ∈ wvX11_put := fun w h => List.mem_cons_of_mem _ (List.mem_append_right _ (List.mem_append_right _ (List.mem_append_right _ (List.mem_append_right _ (List.mem_append_right _ (List.mem_append_right _ (List.mem_append_left _ h)))))))
theorem hbX11_put_X3_setItem : ∀ w ∈ wvX3_setItem, w ∈ wvX11_put := fun w h => List.mem_cons_of_mem _ (List.mem_append_right _ (List.mem_append_right _ (List.mem_append_right _ (List.mem_append_right _ (List.mem_append_right _ (List.mem_append_right _ (List.mem_append_right _ h)))))))
theorem gdX11_put : ∀ w ∈ wvX11_put, wkGd w := wkGdC rfl (wkGdA (wkGdL (by decide +kernel)) (wkGdA (wkGdA gdX3 gdX11) (wkGdA gdX11_entryAt (wkGdA gdX11_tellNumbers (wkGdA gdX11_testItem (wkGdA gdX11_mostItems (wkGdA gdX11_remember gdX3_setItem)))))))
def rX11_put (F : Nat) (k n : Nat) (l0A : Nat) (l1I : Int32) (l2I : Int32) (l3I : Int32) (l4I : Int32) (l5I : Int32) (l6I : Int32) (S : wPS) (Φ : (Int32 → wPS → Prop)) (Ψ : String → wPS → Prop) : Prop :=
  ∃ k4 n5 : Nat, 0 + k4 ≤ k ∧ 0 + n5 ≤ n ∧ rX11_entryAt F k4 n5 l0A l1I S (fun v1 S2 => rX11_tellNumbers F l0A l2I l3I l4I l5I l6I S2 fun v6 S7 => ∃ k14 n15 : Nat, (0 + k4) + k14 ≤ k ∧ (0 + n5) + n15 ≤ n ∧ rX11_testItem F k14 n15 l0A v1 (gEntry_itemCount S7 v1) S7 (fun v11 S12 => rX11_mostItems F v1 S12 fun v16 S17 => if (gEntry_itemCount S12 v1) < v16 then (rX11_remember F l0A (112 : Int32) l1I S17 fun v22 S23 => rX3_setItem F v1 (gEntry_itemCount S23 v1) (wkAd (gWitnessworks_told S23 l0A)) S23 fun v27 S28 => wkLt (wu_Entry_itemCount S28 v1 ((gEntry_itemCount S28 v1) + (1 : Int32))) fun S32 => wkLt (wu_Entry_isSolved S32 v1 (0 : Int32)) fun S33 => Φ (gEntry_itemCount S33 v1) S33) else (((0 + k4) + k14) + 1 ≤ k ∧ ((0 + n5) + n15) + 6 ≤ n ∧ Ψ "java/lang/IllegalStateException" S17)) Ψ) Ψ
set_option maxHeartbeats 4000000 in
set_option maxRecDepth 100000 in
theorem tX11_put {l : Launch} {g : wkG} {F : Nat} {k n : Nat}  {S : wPS} {l0A : Nat} {l1I : Int32} {l2I : Int32} {l3I : Int32} {l4I : Int32} {l5I : Int32} {l6I : Int32} {Φ : (Int32 → wPS → Prop)} {Ψ : String → wPS → Prop} (hst : wkSta g) (hex : wkExA g) (hlt : l.stackTraces = false) (hW : wkWF S) (hl0A : wkIs S l0A 11) (h : rX11_put F k n l0A l1I l2I l3I l4I l5I l6I S Φ Ψ) : wkMetX l g yX11_put wvX11_put 7 k n [.ref l0A, .int l1I, .int l2I, .int l3I, .int l4I, .int l5I, .int l6I] S (fun v' S'' => ∃ v : Int32, v' = some (.int v) ∧ Φ v S'' ∧ wkWF S'' ∧ wkExt S S'') (fun E S'' => Ψ E S'' ∧ wkWF S'' ∧ wkExt S S'') := by
  refine wkMetX_of (ret := (some .int)) (by decide) rfl (Nat.le_of_ble_eq_true rfl) rfl hex hlt (by decide) (fun X hg C hR E EX ET => ?_)
  subst hg
  have hE : wkExt S S := wkExt.rf
  have hd : 7 ≤ 7 := Nat.le_refl _
  show wkGo l X 8 0 0 0 S [some (.ref l0A), some (.int l1I), some (.int l2I), some (.int l3I), some (.int l4I), some (.int l5I), some (.int l6I), none] []
  unfold rX11_put at h
  refine wk_aload_n C dX11_put_0 rfl rfl ?_
  refine wk_iload_n C dX11_put_1 rfl rfl ?_
  obtain ⟨k4, n5, hk4, hn5, h⟩ := h
  refine wk_callVX C hR EX (As := [.int l1I]) (cnt := 1) (tX11_entryAt (l := l) hex hlt hW hl0A h) rfl (wkGoodV (List.mem_of_getElem? (i := 1) rfl) (List.mem_of_getElem? (i := 2) rfl) (List.mem_of_getElem? (i := 3) rfl) (List.mem_of_getElem? (i := 4) rfl) hbX11_put_X11_entryAt gdX11_entryAt) (Nat.le_trans (by decide : 6 + 1 ≤ 7) hd) (by decide) hl0A.1 (fun cy => wAt_11 cy _ hl0A.2) rfl ⟨by decide, by decide, by decide +kernel⟩ rfl rfl (Nat.le_of_ble_eq_true rfl) hk4 hn5 dX11_put_2 (fun E S' q => ⟨q.1, q.2.1, wkExt.tr hE q.2.2⟩) (fun v' S2 hp => ?_)
  obtain ⟨v1, rfl, h, hWS2, hXS2, hIS2⟩ := hp
  refine wk_astore C (lv' := [some (.ref l0A), some (.int l1I), some (.int l2I), some (.int l3I), some (.int l4I), some (.int l5I), some (.int l6I), some (.ref v1)]) dX11_put_5 (by decide) rfl ?_
  refine wk_aload_n C dX11_put_7 rfl rfl ?_
  refine wk_iload_n C dX11_put_8 rfl rfl ?_
  refine wk_iload_n C dX11_put_9 rfl rfl ?_
  refine wk_iload C dX11_put_10 rfl ?_
  refine wk_iload C dX11_put_12 rfl ?_
  refine wk_iload C dX11_put_14 rfl ?_
  refine wk_callV C hR (As := [.int l2I, .int l3I, .int l4I, .int l5I, .int l6I]) (cnt := 5) (tX11_tellNumbers (l := l) hWS2 (hXS2 _ _ hl0A) h) rfl (wkGoodV (List.mem_of_getElem? (i := 5) rfl) (List.mem_of_getElem? (i := 6) rfl) (List.mem_of_getElem? (i := 7) rfl) (List.mem_of_getElem? (i := 4) rfl) hbX11_put_X11_tellNumbers gdX11_tellNumbers) (Nat.le_trans (by decide : 0 + 1 ≤ 7) hd) (by decide) (hXS2 _ _ hl0A).1 (fun cy => wAt_11 cy _ (hXS2 _ _ hl0A).2) rfl ⟨by decide, by decide, by decide +kernel⟩ rfl rfl (Nat.le_of_ble_eq_true rfl) hk4 hn5 dX11_put_16 (fun v' S7 hp => ?_)
  obtain ⟨v6, rfl, h, hWS7, hXS7⟩ := hp
  refine wk_aload_n C dX11_put_19 rfl rfl ?_
  refine wk_aload C dX11_put_20 rfl ?_
  refine wk_aload C dX11_put_22 rfl ?_
  refine wk_get C (v := .int (gEntry_itemCount S7 v1)) huX11_put_3 (hXS7 _ _ hIS2).1 (fun cy => wAt_3 cy _ (hXS7 _ _ hIS2).2) rfl 6 (by decide) (List.mem_of_getElem? (i := 8) rfl) rfl rfl dX11_put_24 ?_
  obtain ⟨k14, n15, hk14, hn15, h⟩ := h
  refine wk_callVX C hR EX (As := [.ref v1, .int (gEntry_itemCount S7 v1)]) (cnt := 2) (tX11_testItem (l := l) hex hlt hWS7 (hXS7 _ _ (hXS2 _ _ hl0A)) (hXS7 _ _ hIS2) h) rfl (wkGoodV (List.mem_of_getElem? (i := 9) rfl) (List.mem_of_getElem? (i := 10) rfl) (List.mem_of_getElem? (i := 11) rfl) (List.mem_of_getElem? (i := 4) rfl) hbX11_put_X11_testItem gdX11_testItem) (Nat.le_trans (by decide : 6 + 1 ≤ 7) hd) (by decide) (hXS7 _ _ (hXS2 _ _ hl0A)).1 (fun cy => wAt_11 cy _ (hXS7 _ _ (hXS2 _ _ hl0A)).2) rfl ⟨by decide, by decide, by decide +kernel⟩ rfl rfl (Nat.le_of_ble_eq_true rfl) hk14 hn15 dX11_put_27 (fun E S' q => ⟨q.1, q.2.1, wkExt.tr (wkExt.tr (wkExt.tr hE hXS2) hXS7) q.2.2⟩) (fun v' S12 hp => ?_)
  obtain ⟨v11, rfl, h, hWS12, hXS12⟩ := hp
  refine wk_aload C dX11_put_30 rfl ?_
  refine wk_get C (v := .int (gEntry_itemCount S12 v1)) huX11_put_3 (hXS12 _ _ (hXS7 _ _ hIS2)).1 (fun cy => wAt_3 cy _ (hXS12 _ _ (hXS7 _ _ hIS2)).2) rfl 6 (by decide) (List.mem_of_getElem? (i := 8) rfl) rfl rfl dX11_put_32 ?_
  refine wk_aload C dX11_put_35 rfl ?_
  refine wk_callW C hR (As := [.ref v1]) (cnt := 1) (tX11_mostItems (l := l) hst hWS12 (hXS12 _ _ (hXS7 _ _ hIS2)) h) rfl (wkGoodW (List.mem_of_getElem? (i := 12) rfl) (List.mem_of_getElem? (i := 13) rfl) (List.mem_of_getElem? (i := 4) rfl) hbX11_put_X11_mostItems gdX11_mostItems) (Nat.le_trans (by decide : 0 + 1 ≤ 7) hd) (by decide) ⟨by decide, by decide, by decide +kernel⟩ rfl rfl (Nat.le_of_ble_eq_true rfl) hk14 hn15 dX11_put_37 (fun v' S17 hp => ?_)
  obtain ⟨v16, rfl, h, hWS17, hXS17⟩ := hp
  refine wk_icmp_lt C (tgt := 53) dX11_put_40 (by decide) (fun c21 => ?_) (fun c21 => ?_)
  · rw [if_pos c21] at h
    refine wk_aload_n C dX11_put_53 rfl rfl ?_
    refine wk_bipush C (v := 112) dX11_put_54 (by decide) ?_
    refine wk_iload_n C dX11_put_56 rfl rfl ?_
    refine wk_callV C hR (As := [.int (112 : Int32), .int l1I]) (cnt := 2) (tX11_remember (l := l) hWS17 (hXS17 _ _ (hXS12 _ _ (hXS7 _ _ (hXS2 _ _ hl0A)))) h) rfl (wkGoodV (List.mem_of_getElem? (i := 14) rfl) (List.mem_of_getElem? (i := 15) rfl) (List.mem_of_getElem? (i := 16) rfl) (List.mem_of_getElem? (i := 4) rfl) hbX11_put_X11_remember gdX11_remember) (Nat.le_trans (by decide : 2 + 1 ≤ 7) hd) (by decide) (hXS17 _ _ (hXS12 _ _ (hXS7 _ _ (hXS2 _ _ hl0A)))).1 (fun cy => wAt_11 cy _ (hXS17 _ _ (hXS12 _ _ (hXS7 _ _ (hXS2 _ _ hl0A)))).2) rfl ⟨by decide, by decide, by decide +kernel⟩ rfl rfl (Nat.le_of_ble_eq_true rfl) hk14 hn15 dX11_put_57 (fun v' S23 hp => ?_)
    obtain ⟨v22, rfl, h, hWS23, hXS23⟩ := hp
    refine wk_aload C dX11_put_60 rfl ?_
    refine wk_aload C dX11_put_62 rfl ?_
    refine wk_get C (v := .int (gEntry_itemCount S23 v1)) huX11_put_3 (hXS23 _ _ (hXS17 _ _ (hXS12 _ _ (hXS7 _ _ hIS2)))).1 (fun cy => wAt_3 cy _ (hXS23 _ _ (hXS17 _ _ (hXS12 _ _ (hXS7 _ _ hIS2)))).2) rfl 6 (by decide) (List.mem_of_getElem? (i := 8) rfl) rfl rfl dX11_put_64 ?_
    refine wk_aload_n C dX11_put_67 rfl rfl ?_
    refine wk_get C huX11_put_11 (hXS23 _ _ (hXS17 _ _ (hXS12 _ _ (hXS7 _ _ (hXS2 _ _ hl0A))))).1 (fun cy => wAt_11 cy _ (hXS23 _ _ (hXS17 _ _ (hXS12 _ _ (hXS7 _ _ (hXS2 _ _ hl0A))))).2) rfl 4 (by decide) (List.mem_of_getElem? (i := 17) rfl) rfl (congrArg some (congrArg va_rf (wf_Witnessworks_told hWS23 (hXS23 _ _ (hXS17 _ _ (hXS12 _ _ (hXS7 _ _ (hXS2 _ _ hl0A)))))).1)) dX11_put_68 ?_
    refine wk_callV C hR (As := [.int (gEntry_itemCount S23 v1), .ref (wkAd (gWitnessworks_told S23 l0A))]) (cnt := 2) (tX3_setItem (l := l) hWS23 (hXS23 _ _ (hXS17 _ _ (hXS12 _ _ (hXS7 _ _ hIS2)))) (wf_Witnessworks_told hWS23 (hXS23 _ _ (hXS17 _ _ (hXS12 _ _ (hXS7 _ _ (hXS2 _ _ hl0A)))))).2 h) rfl (wkGoodV (List.mem_of_getElem? (i := 18) rfl) (List.mem_of_getElem? (i := 19) rfl) (List.mem_of_getElem? (i := 20) rfl) (List.mem_of_getElem? (i := 21) rfl) hbX11_put_X3_setItem gdX3_setItem) (Nat.le_trans (by decide : 1 + 1 ≤ 7) hd) (by decide) (hXS23 _ _ (hXS17 _ _ (hXS12 _ _ (hXS7 _ _ hIS2)))).1 (fun cy => wAt_3 cy _ (hXS23 _ _ (hXS17 _ _ (hXS12 _ _ (hXS7 _ _ hIS2)))).2) rfl ⟨by decide, by decide, by decide +kernel⟩ rfl rfl (Nat.le_of_ble_eq_true rfl) hk14 hn15 dX11_put_71 (fun v' S28 hp => ?_)
    obtain ⟨v27, rfl, h, hWS28, hXS28⟩ := hp
    refine wk_aload C dX11_put_74 rfl ?_
    refine wk_dup C dX11_put_76 rfl ?_
    refine wk_get C (v := .int (gEntry_itemCount S28 v1)) huX11_put_3 (hXS28 _ _ (hXS23 _ _ (hXS17 _ _ (hXS12 _ _ (hXS7 _ _ hIS2))))).1 (fun cy => wAt_3 cy _ (hXS28 _ _ (hXS23 _ _ (hXS17 _ _ (hXS12 _ _ (hXS7 _ _ hIS2))))).2) rfl 6 (by decide) (List.mem_of_getElem? (i := 8) rfl) rfl rfl dX11_put_77 ?_
    refine wk_iconst C (v := 1) dX11_put_80 (by decide) ?_
    refine wk_iadd C dX11_put_81 rfl ?_
    obtain ⟨S32, eS32, h⟩ := wkLt_some h
    refine wk_put C (S' := S32) huX11_put_3 (hXS28 _ _ (hXS23 _ _ (hXS17 _ _ (hXS12 _ _ (hXS7 _ _ hIS2))))).1 (fun cy => wAt_3 cy _ (hXS28 _ _ (hXS23 _ _ (hXS17 _ _ (hXS12 _ _ (hXS7 _ _ hIS2))))).2) rfl 6 (by decide) (List.mem_of_getElem? (i := 8) rfl) rfl tyX3_ok nmX3 rfl (ty := .int) rfl rfl rfl (by show 6 < 17; decide) (fun cy b => by rw [eS32]; exact wSt_3_6 cy _ (hXS28 _ _ (hXS23 _ _ (hXS17 _ _ (hXS12 _ _ (hXS7 _ _ hIS2))))).2 _ b) (by rw [eS32]) dX11_put_82 ?_
    have hWS32 : wkWF S32 := by rw [eS32]; exact hWS28
    have hXS32 : wkExt S28 S32 := by rw [eS32]; exact wkExt.rf
    refine wk_aload C dX11_put_85 rfl ?_
    refine wk_iconst C (v := 0) dX11_put_87 (by decide) ?_
    obtain ⟨S33, eS33, h⟩ := wkLt_some h
    refine wk_put C (S' := S33) huX11_put_3 (hXS32 _ _ (hXS28 _ _ (hXS23 _ _ (hXS17 _ _ (hXS12 _ _ (hXS7 _ _ hIS2)))))).1 (fun cy => wAt_3 cy _ (hXS32 _ _ (hXS28 _ _ (hXS23 _ _ (hXS17 _ _ (hXS12 _ _ (hXS7 _ _ hIS2)))))).2) rfl 9 (by decide) (List.mem_of_getElem? (i := 22) rfl) rfl tyX3_ok nmX3 rfl (ty := .boolean) rfl rfl rfl (by show 9 < 17; decide) (fun cy b => by rw [eS33]; exact wSt_3_9 cy _ (hXS32 _ _ (hXS28 _ _ (hXS23 _ _ (hXS17 _ _ (hXS12 _ _ (hXS7 _ _ hIS2)))))).2 _ b) (by rw [eS33]) dX11_put_88 ?_
    have hWS33 : wkWF S33 := by rw [eS33]; exact hWS32
    have hXS33 : wkExt S32 S33 := by rw [eS33]; exact wkExt.rf
    refine wk_aload C dX11_put_91 rfl ?_
    refine wk_get C (v := .int (gEntry_itemCount S33 v1)) huX11_put_3 (hXS33 _ _ (hXS32 _ _ (hXS28 _ _ (hXS23 _ _ (hXS17 _ _ (hXS12 _ _ (hXS7 _ _ hIS2))))))).1 (fun cy => wAt_3 cy _ (hXS33 _ _ (hXS32 _ _ (hXS28 _ _ (hXS23 _ _ (hXS17 _ _ (hXS12 _ _ (hXS7 _ _ hIS2))))))).2) rfl 6 (by decide) (List.mem_of_getElem? (i := 8) rfl) rfl rfl dX11_put_93 ?_
    exact E _ _ _ _ _ _ hk14 hn15 dX11_put_96 ⟨(gEntry_itemCount S33 v1), rfl, h, hWS33, (wkExt.tr (wkExt.tr (wkExt.tr (wkExt.tr (wkExt.tr (wkExt.tr (wkExt.tr (wkExt.tr hE hXS2) hXS7) hXS12) hXS17) hXS23) hXS28) hXS32) hXS33)⟩
  · rw [if_neg c21] at h
    obtain ⟨t34a, t34b, h⟩ := h
    exact ET _ _ _ _ _ _ (90, 122, 94, "java/lang/IllegalStateException", "no more items") (by decide +kernel) (Nat.le_of_ble_eq_true rfl) (Or.inl ⟨dX11_put_43, dX11_put_46, dX11_put_47, dX11_put_49, dX11_put_52⟩) ⟨h, hWS17, (wkExt.tr (wkExt.tr (wkExt.tr (wkExt.tr hE hXS2) hXS7) hXS12) hXS17)⟩ t34a t34b
def wvX11_change : List Cond := .code yX11_change cX11_change 10 (some .int) :: (([.methodLink RX11 103 yX11_entryAt, .instanceMethod yX11_entryAt, .selects RX11 yX11_entryAt yX11_entryAt, .initialized RX11, .fieldLink RX11 111 "Witnessworks$Entry" "itemCount" "I", .methodLink RX11 132 yX11_testPlace, .static yX11_testPlace, .methodLink RX11 107 yX11_tellNumbers, .instanceMethod yX11_tellNumbers, .selects RX11 yX11_tellNumbers yX11_tellNumbers, .methodLink RX11 114 yX11_testItem, .instanceMethod yX11_testItem, .selects RX11 yX11_testItem yX11_testItem, .methodLink RX11 99 yX11_remember, .instanceMethod yX11_remember, .selects RX11 yX11_remember yX11_remember, .fieldLink RX11 26 "Witnessworks" "told" "[I", .methodLink RX11 136 yX3_countUnlike, .instanceMethod yX3_countUnlike, .selects RX3 yX3_countUnlike yX3_countUnlike, .initialized RX3, .methodLink RX11 124 yX3_setItem, .instanceMethod yX3_setItem, .selects RX3 yX3_setItem yX3_setItem, .fieldLink RX11 128 "Witnessworks$Entry" "isSolved" "Z"] : List Cond) ++ ((wsX30 ++ (wsX110)) ++ (wvX11_entryAt ++ (wvX11_testPlace ++ (wvX11_tellNumbers ++ (wvX11_testItem ++ (wvX11_remember ++ (wvX3_countUnlike ++ (wvX3_setItem)))))))))
theorem huX11_change_3 : ∀ w ∈ u_ws RX3 TX3 17, w ∈ wvX11_change := fun w h => List.mem_cons_of_mem _ (List.mem_append_right _ (List.mem_append_left _ (List.mem_append_left _ h)))
theorem huX11_change_11 : ∀ w ∈ u_ws RX11 TX11 19, w ∈ wvX11_change := fun w h => List.mem_cons_of_mem _ (List.mem_append_right _ (List.mem_append_left _ (List.mem_append_right _ h)))
theorem hbX11_change_X11_entryAt : ∀ w ∈ wvX11_entryAt, w ∈ wvX11_change := fun w h => List.mem_cons_of_mem _ (List.mem_append_right _ (List.mem_append_right _ (List.mem_append_left _ h)))
theorem hbX11_change_X11_testPlace : ∀ w ∈ wvX11_testPlace, w ∈ wvX11_change := fun w h => List.mem_cons_of_mem _ (List.mem_append_right _ (List.mem_append_right _ (List.mem_append_right _ (List.mem_append_left _ h))))
theorem hbX11_change_X11_tellNumbers : ∀ w ∈ wvX11_tellNumbers, w ∈ wvX11_change := fun w h => List.mem_cons_of_mem _ (List.mem_append_right _ (List.mem_append_right _ (List.mem_append_right _ (List.mem_append_right _ (List.mem_append_left _ h)))))
theorem hbX11_change_X11_testItem : ∀ w ∈ wvX11_testItem, w ∈ wvX11_change := fun w h => List.mem_cons_of_mem _ (List.mem_append_right _ (List.mem_append_right _ (List.mem_append_right _ (List.mem_append_right _ (List.mem_append_right _ (List.mem_append_left _ h))))))
theorem hbX11_change_X11_remember : ∀ w ∈ wvX11_remember, w ∈ wvX11_change := fun w h => List.mem_cons_of_mem _ (List.mem_append_right _ (List.mem_append_right _ (List.mem_append_right _ (List.mem_append_right _ (List.mem_append_right _ (List.mem_append_right _ (List.mem_append_left _ h)))))))
theorem hbX11_change_X3_countUnlike : ∀ w ∈ wvX3_countUnlike, w ∈ wvX11_change := fun w h => List.mem_cons_of_mem _ (List.mem_append_right _ (List.mem_append_right _ (List.mem_append_right _ (List.mem_append_right _ (List.mem_append_right _ (List.mem_append_right _ (List.mem_append_right _ (List.mem_append_left _ h))))))))
theorem hbX11_change_X3_setItem : ∀ w ∈ wvX3_setItem, w ∈ wvX11_change := fun w h => List.mem_cons_of_mem _ (List.mem_append_right _ (List.mem_append_right _ (List.mem_append_right _ (List.mem_append_right _ (List.mem_append_right _ (List.mem_append_right _ (List.mem_append_right _ (List.mem_append_right _ h))))))))
theorem gdX11_change : ∀ w ∈ wvX11_change, wkGd w := wkGdC rfl (wkGdA (wkGdL (by decide +kernel)) (wkGdA (wkGdA gdX3 gdX11) (wkGdA gdX11_entryAt (wkGdA gdX11_testPlace (wkGdA gdX11_tellNumbers (wkGdA gdX11_testItem (wkGdA gdX11_remember (wkGdA gdX3_countUnlike gdX3_setItem))))))))
def rX11_change (F : Nat) (k n : Nat) (l0A : Nat) (l1I : Int32) (l2I : Int32) (l3I : Int32) (l4I : Int32) (l5I : Int32) (l6I : Int32) (l7I : Int32) (S : wPS) (Φ : (Int32 → wPS → Prop)) (Ψ : String → wPS → Prop) : Prop :=
  ∃ k4 n5 : Nat, 0 + k4 ≤ k ∧ 0 + n5 ≤ n ∧ rX11_entryAt F k4 n5 l0A l1I S (fun v1 S2 => ∃ k9 n10 : Nat, (0 + k4) + k9 ≤ k ∧ (0 + n5) + n10 ≤ n ∧ rX11_testPlace F k9 n10 l2I (gEntry_itemCount S2 v1) S2 (fun v6 S7 => rX11_tellNumbers F l0A l3I l4I l5I l6I l7I S7 fun v11 S12 => ∃ k19 n20 : Nat, ((0 + k4) + k9) + k19 ≤ k ∧ ((0 + n5) + n10) + n20 ≤ n ∧ rX11_testItem F k19 n20 l0A v1 l2I S12 (fun v16 S17 => rX11_remember F l0A (99 : Int32) l1I S17 fun v21 S22 => rX3_countUnlike F v1 l2I (wkAd (gWitnessworks_told S22 l0A)) S22 fun v26 S27 => rX3_setItem F v1 l2I (wkAd (gWitnessworks_told S27 l0A)) S27 fun v31 S32 => wkLt (wu_Entry_isSolved S32 v1 (0 : Int32)) fun S36 => Φ v26 S36) Ψ) Ψ) Ψ
set_option maxHeartbeats 4000000 in
set_option maxRecDepth 100000 in
theorem tX11_change {l : Launch} {g : wkG} {F : Nat} {k n : Nat}  {S : wPS} {l0A : Nat} {l1I : Int32} {l2I : Int32} {l3I : Int32} {l4I : Int32} {l5I : Int32} {l6I : Int32} {l7I : Int32} {Φ : (Int32 → wPS → Prop)} {Ψ : String → wPS → Prop} (hex : wkExA g) (hlt : l.stackTraces = false) (hW : wkWF S) (hl0A : wkIs S l0A 11) (h : rX11_change F k n l0A l1I l2I l3I l4I l5I l6I l7I S Φ Ψ) : wkMetX l g yX11_change wvX11_change 7 k n [.ref l0A, .int l1I, .int l2I, .int l3I, .int l4I, .int l5I, .int l6I, .int l7I] S (fun v' S'' => ∃ v : Int32, v' = some (.int v) ∧ Φ v S'' ∧ wkWF S'' ∧ wkExt S S'') (fun E S'' => Ψ E S'' ∧ wkWF S'' ∧ wkExt S S'') := by
  refine wkMetX_of (ret := (some .int)) (by decide) rfl (Nat.le_of_ble_eq_true rfl) rfl hex hlt (by decide) (fun X hg C hR E EX ET => ?_)
  subst hg
  have hE : wkExt S S := wkExt.rf
  have hd : 7 ≤ 7 := Nat.le_refl _
  show wkGo l X 10 0 0 0 S [some (.ref l0A), some (.int l1I), some (.int l2I), some (.int l3I), some (.int l4I), some (.int l5I), some (.int l6I), some (.int l7I), none, none] []
  unfold rX11_change at h
  refine wk_aload_n C dX11_change_0 rfl rfl ?_
  refine wk_iload_n C dX11_change_1 rfl rfl ?_
  obtain ⟨k4, n5, hk4, hn5, h⟩ := h
  refine wk_callVX C hR EX (As := [.int l1I]) (cnt := 1) (tX11_entryAt (l := l) hex hlt hW hl0A h) rfl (wkGoodV (List.mem_of_getElem? (i := 1) rfl) (List.mem_of_getElem? (i := 2) rfl) (List.mem_of_getElem? (i := 3) rfl) (List.mem_of_getElem? (i := 4) rfl) hbX11_change_X11_entryAt gdX11_entryAt) (Nat.le_trans (by decide : 6 + 1 ≤ 7) hd) (by decide) hl0A.1 (fun cy => wAt_11 cy _ hl0A.2) rfl ⟨by decide, by decide, by decide +kernel⟩ rfl rfl (Nat.le_of_ble_eq_true rfl) hk4 hn5 dX11_change_2 (fun E S' q => ⟨q.1, q.2.1, wkExt.tr hE q.2.2⟩) (fun v' S2 hp => ?_)
  obtain ⟨v1, rfl, h, hWS2, hXS2, hIS2⟩ := hp
  refine wk_astore C (lv' := [some (.ref l0A), some (.int l1I), some (.int l2I), some (.int l3I), some (.int l4I), some (.int l5I), some (.int l6I), some (.int l7I), some (.ref v1), none]) dX11_change_5 (by decide) rfl ?_
  refine wk_iload_n C dX11_change_7 rfl rfl ?_
  refine wk_aload C dX11_change_8 rfl ?_
  refine wk_get C (v := .int (gEntry_itemCount S2 v1)) huX11_change_3 hIS2.1 (fun cy => wAt_3 cy _ hIS2.2) rfl 6 (by decide) (List.mem_of_getElem? (i := 5) rfl) rfl rfl dX11_change_10 ?_
  obtain ⟨k9, n10, hk9, hn10, h⟩ := h
  refine wk_callWX C hR EX (As := [.int l2I, .int (gEntry_itemCount S2 v1)]) (cnt := 2) (tX11_testPlace (l := l) hex hlt hWS2  h) rfl (wkGoodW (List.mem_of_getElem? (i := 6) rfl) (List.mem_of_getElem? (i := 7) rfl) (List.mem_of_getElem? (i := 4) rfl) hbX11_change_X11_testPlace gdX11_testPlace) (Nat.le_trans (by decide : 6 + 1 ≤ 7) hd) (by decide) ⟨by decide, by decide, by decide +kernel⟩ rfl rfl (Nat.le_of_ble_eq_true rfl) hk9 hn10 dX11_change_13 (fun E S' q => ⟨q.1, q.2.1, wkExt.tr (wkExt.tr hE hXS2) q.2.2⟩) (fun v' S7 hp => ?_)
  obtain ⟨v6, rfl, h, hWS7, hXS7⟩ := hp
  refine wk_aload_n C dX11_change_16 rfl rfl ?_
  refine wk_iload_n C dX11_change_17 rfl rfl ?_
  refine wk_iload C dX11_change_18 rfl ?_
  refine wk_iload C dX11_change_20 rfl ?_
  refine wk_iload C dX11_change_22 rfl ?_
  refine wk_iload C dX11_change_24 rfl ?_
  refine wk_callV C hR (As := [.int l3I, .int l4I, .int l5I, .int l6I, .int l7I]) (cnt := 5) (tX11_tellNumbers (l := l) hWS7 (hXS7 _ _ (hXS2 _ _ hl0A)) h) rfl (wkGoodV (List.mem_of_getElem? (i := 8) rfl) (List.mem_of_getElem? (i := 9) rfl) (List.mem_of_getElem? (i := 10) rfl) (List.mem_of_getElem? (i := 4) rfl) hbX11_change_X11_tellNumbers gdX11_tellNumbers) (Nat.le_trans (by decide : 0 + 1 ≤ 7) hd) (by decide) (hXS7 _ _ (hXS2 _ _ hl0A)).1 (fun cy => wAt_11 cy _ (hXS7 _ _ (hXS2 _ _ hl0A)).2) rfl ⟨by decide, by decide, by decide +kernel⟩ rfl rfl (Nat.le_of_ble_eq_true rfl) hk9 hn10 dX11_change_26 (fun v' S12 hp => ?_)
  obtain ⟨v11, rfl, h, hWS12, hXS12⟩ := hp
  refine wk_aload_n C dX11_change_29 rfl rfl ?_
  refine wk_aload C dX11_change_30 rfl ?_
  refine wk_iload_n C dX11_change_32 rfl rfl ?_
  obtain ⟨k19, n20, hk19, hn20, h⟩ := h
  refine wk_callVX C hR EX (As := [.ref v1, .int l2I]) (cnt := 2) (tX11_testItem (l := l) hex hlt hWS12 (hXS12 _ _ (hXS7 _ _ (hXS2 _ _ hl0A))) (hXS12 _ _ (hXS7 _ _ hIS2)) h) rfl (wkGoodV (List.mem_of_getElem? (i := 11) rfl) (List.mem_of_getElem? (i := 12) rfl) (List.mem_of_getElem? (i := 13) rfl) (List.mem_of_getElem? (i := 4) rfl) hbX11_change_X11_testItem gdX11_testItem) (Nat.le_trans (by decide : 6 + 1 ≤ 7) hd) (by decide) (hXS12 _ _ (hXS7 _ _ (hXS2 _ _ hl0A))).1 (fun cy => wAt_11 cy _ (hXS12 _ _ (hXS7 _ _ (hXS2 _ _ hl0A))).2) rfl ⟨by decide, by decide, by decide +kernel⟩ rfl rfl (Nat.le_of_ble_eq_true rfl) hk19 hn20 dX11_change_33 (fun E S' q => ⟨q.1, q.2.1, wkExt.tr (wkExt.tr (wkExt.tr (wkExt.tr hE hXS2) hXS7) hXS12) q.2.2⟩) (fun v' S17 hp => ?_)
  obtain ⟨v16, rfl, h, hWS17, hXS17⟩ := hp
  refine wk_aload_n C dX11_change_36 rfl rfl ?_
  refine wk_bipush C (v := 99) dX11_change_37 (by decide) ?_
  refine wk_iload_n C dX11_change_39 rfl rfl ?_
  refine wk_callV C hR (As := [.int (99 : Int32), .int l1I]) (cnt := 2) (tX11_remember (l := l) hWS17 (hXS17 _ _ (hXS12 _ _ (hXS7 _ _ (hXS2 _ _ hl0A)))) h) rfl (wkGoodV (List.mem_of_getElem? (i := 14) rfl) (List.mem_of_getElem? (i := 15) rfl) (List.mem_of_getElem? (i := 16) rfl) (List.mem_of_getElem? (i := 4) rfl) hbX11_change_X11_remember gdX11_remember) (Nat.le_trans (by decide : 2 + 1 ≤ 7) hd) (by decide) (hXS17 _ _ (hXS12 _ _ (hXS7 _ _ (hXS2 _ _ hl0A)))).1 (fun cy => wAt_11 cy _ (hXS17 _ _ (hXS12 _ _ (hXS7 _ _ (hXS2 _ _ hl0A)))).2) rfl ⟨by decide, by decide, by decide +kernel⟩ rfl rfl (Nat.le_of_ble_eq_true rfl) hk19 hn20 dX11_change_40 (fun v' S22 hp => ?_)
  obtain ⟨v21, rfl, h, hWS22, hXS22⟩ := hp
  refine wk_aload C dX11_change_43 rfl ?_
  refine wk_iload_n C dX11_change_45 rfl rfl ?_
  refine wk_aload_n C dX11_change_46 rfl rfl ?_
  refine wk_get C huX11_change_11 (hXS22 _ _ (hXS17 _ _ (hXS12 _ _ (hXS7 _ _ (hXS2 _ _ hl0A))))).1 (fun cy => wAt_11 cy _ (hXS22 _ _ (hXS17 _ _ (hXS12 _ _ (hXS7 _ _ (hXS2 _ _ hl0A))))).2) rfl 4 (by decide) (List.mem_of_getElem? (i := 17) rfl) rfl (congrArg some (congrArg va_rf (wf_Witnessworks_told hWS22 (hXS22 _ _ (hXS17 _ _ (hXS12 _ _ (hXS7 _ _ (hXS2 _ _ hl0A)))))).1)) dX11_change_47 ?_
  refine wk_callV C hR (As := [.int l2I, .ref (wkAd (gWitnessworks_told S22 l0A))]) (cnt := 2) (tX3_countUnlike (l := l) hWS22 (hXS22 _ _ (hXS17 _ _ (hXS12 _ _ (hXS7 _ _ hIS2)))) (wf_Witnessworks_told hWS22 (hXS22 _ _ (hXS17 _ _ (hXS12 _ _ (hXS7 _ _ (hXS2 _ _ hl0A)))))).2 h) rfl (wkGoodV (List.mem_of_getElem? (i := 18) rfl) (List.mem_of_getElem? (i := 19) rfl) (List.mem_of_getElem? (i := 20) rfl) (List.mem_of_getElem? (i := 21) rfl) hbX11_change_X3_countUnlike gdX3_countUnlike) (Nat.le_trans (by decide : 1 + 1 ≤ 7) hd) (by decide) (hXS22 _ _ (hXS17 _ _ (hXS12 _ _ (hXS7 _ _ hIS2)))).1 (fun cy => wAt_3 cy _ (hXS22 _ _ (hXS17 _ _ (hXS12 _ _ (hXS7 _ _ hIS2)))).2) rfl ⟨by decide, by decide, by decide +kernel⟩ rfl rfl (Nat.le_of_ble_eq_true rfl) hk19 hn20 dX11_change_50 (fun v' S27 hp => ?_)
  obtain ⟨v26, rfl, h, hWS27, hXS27⟩ := hp
  refine wk_istore C (lv' := [some (.ref l0A), some (.int l1I), some (.int l2I), some (.int l3I), some (.int l4I), some (.int l5I), some (.int l6I), some (.int l7I), some (.ref v1), some (.int v26)]) dX11_change_53 (by decide) rfl ?_
  refine wk_aload C dX11_change_55 rfl ?_
  refine wk_iload_n C dX11_change_57 rfl rfl ?_
  refine wk_aload_n C dX11_change_58 rfl rfl ?_
  refine wk_get C huX11_change_11 (hXS27 _ _ (hXS22 _ _ (hXS17 _ _ (hXS12 _ _ (hXS7 _ _ (hXS2 _ _ hl0A)))))).1 (fun cy => wAt_11 cy _ (hXS27 _ _ (hXS22 _ _ (hXS17 _ _ (hXS12 _ _ (hXS7 _ _ (hXS2 _ _ hl0A)))))).2) rfl 4 (by decide) (List.mem_of_getElem? (i := 17) rfl) rfl (congrArg some (congrArg va_rf (wf_Witnessworks_told hWS27 (hXS27 _ _ (hXS22 _ _ (hXS17 _ _ (hXS12 _ _ (hXS7 _ _ (hXS2 _ _ hl0A))))))).1)) dX11_change_59 ?_
  refine wk_callV C hR (As := [.int l2I, .ref (wkAd (gWitnessworks_told S27 l0A))]) (cnt := 2) (tX3_setItem (l := l) hWS27 (hXS27 _ _ (hXS22 _ _ (hXS17 _ _ (hXS12 _ _ (hXS7 _ _ hIS2))))) (wf_Witnessworks_told hWS27 (hXS27 _ _ (hXS22 _ _ (hXS17 _ _ (hXS12 _ _ (hXS7 _ _ (hXS2 _ _ hl0A))))))).2 h) rfl (wkGoodV (List.mem_of_getElem? (i := 22) rfl) (List.mem_of_getElem? (i := 23) rfl) (List.mem_of_getElem? (i := 24) rfl) (List.mem_of_getElem? (i := 21) rfl) hbX11_change_X3_setItem gdX3_setItem) (Nat.le_trans (by decide : 1 + 1 ≤ 7) hd) (by decide) (hXS27 _ _ (hXS22 _ _ (hXS17 _ _ (hXS12 _ _ (hXS7 _ _ hIS2))))).1 (fun cy => wAt_3 cy _ (hXS27 _ _ (hXS22 _ _ (hXS17 _ _ (hXS12 _ _ (hXS7 _ _ hIS2))))).2) rfl ⟨by decide, by decide, by decide +kernel⟩ rfl rfl (Nat.le_of_ble_eq_true rfl) hk19 hn20 dX11_change_62 (fun v' S32 hp => ?_)
  obtain ⟨v31, rfl, h, hWS32, hXS32⟩ := hp
  refine wk_aload C dX11_change_65 rfl ?_
  refine wk_iconst C (v := 0) dX11_change_67 (by decide) ?_
  obtain ⟨S36, eS36, h⟩ := wkLt_some h
  refine wk_put C (S' := S36) huX11_change_3 (hXS32 _ _ (hXS27 _ _ (hXS22 _ _ (hXS17 _ _ (hXS12 _ _ (hXS7 _ _ hIS2)))))).1 (fun cy => wAt_3 cy _ (hXS32 _ _ (hXS27 _ _ (hXS22 _ _ (hXS17 _ _ (hXS12 _ _ (hXS7 _ _ hIS2)))))).2) rfl 9 (by decide) (List.mem_of_getElem? (i := 25) rfl) rfl tyX3_ok nmX3 rfl (ty := .boolean) rfl rfl rfl (by show 9 < 17; decide) (fun cy b => by rw [eS36]; exact wSt_3_9 cy _ (hXS32 _ _ (hXS27 _ _ (hXS22 _ _ (hXS17 _ _ (hXS12 _ _ (hXS7 _ _ hIS2)))))).2 _ b) (by rw [eS36]) dX11_change_68 ?_
  have hWS36 : wkWF S36 := by rw [eS36]; exact hWS32
  have hXS36 : wkExt S32 S36 := by rw [eS36]; exact wkExt.rf
  refine wk_iload C dX11_change_71 rfl ?_
  exact E _ _ _ _ _ _ hk19 hn20 dX11_change_73 ⟨v26, rfl, h, hWS36, (wkExt.tr (wkExt.tr (wkExt.tr (wkExt.tr (wkExt.tr (wkExt.tr (wkExt.tr (wkExt.tr hE hXS2) hXS7) hXS12) hXS17) hXS22) hXS27) hXS32) hXS36)⟩
def wvX11_kindOf : List Cond := .code yX11_kindOf cX11_kindOf 2 (some .char) :: (([.methodLink RX11 103 yX11_entryAt, .instanceMethod yX11_entryAt, .selects RX11 yX11_entryAt yX11_entryAt, .initialized RX11, .fieldLink RX11 147 "Witnessworks$Entry" "kind" "I", .methodLink RX11 208 yJ0_charAt_5068e, .instanceMethod yJ0_charAt_5068e, .selects RJ0 yJ0_charAt_5068e yJ0_charAt_5068e, .initialized RJ0] : List Cond) ++ ((wsX30) ++ (wvX11_entryAt ++ (wvJ0_charAt_5068e))))
theorem huX11_kindOf_3 : ∀ w ∈ u_ws RX3 TX3 17, w ∈ wvX11_kindOf := fun w h => List.mem_cons_of_mem _ (List.mem_append_right _ (List.mem_append_left _ h))
theorem hbX11_kindOf_X11_entryAt : ∀ w ∈ wvX11_entryAt, w ∈ wvX11_kindOf := fun w h => List.mem_cons_of_mem _ (List.mem_append_right _ (List.mem_append_right _ (List.mem_append_left _ h)))
theorem hbX11_kindOf_J0_charAt_5068e : ∀ w ∈ wvJ0_charAt_5068e, w ∈ wvX11_kindOf := fun w h => List.mem_cons_of_mem _ (List.mem_append_right _ (List.mem_append_right _ (List.mem_append_right _ h)))
theorem gdX11_kindOf : ∀ w ∈ wvX11_kindOf, wkGd w := wkGdC rfl (wkGdA (wkGdL (by decide +kernel)) (wkGdA gdX3 (wkGdA gdX11_entryAt gdJ0_charAt_5068e)))
def rX11_kindOf (F : Nat) (k n : Nat) (l0A : Nat) (l1I : Int32) (S : wPS) (Φ : (Int32 → wPS → Prop)) (Ψ : String → wPS → Prop) : Prop :=
  ∃ k4 n5 : Nat, 0 + k4 ≤ k ∧ 0 + n5 ≤ n ∧ rX11_entryAt F k4 n5 l0A l1I S (fun v1 S2 => rJ0_charAt_5068e F (gEntry_kind S2 v1) S2 fun v6 S7 => ((v6 : Int32).toUInt32 % 65536).toInt32 = v6 ∧ Φ v6 S7) Ψ
set_option maxHeartbeats 4000000 in
set_option maxRecDepth 100000 in
theorem tX11_kindOf {l : Launch} {g : wkG} {F : Nat} {k n : Nat}  {S : wPS} {l0A : Nat} {l1I : Int32} {Φ : (Int32 → wPS → Prop)} {Ψ : String → wPS → Prop} (hstr : wkStr g) (hex : wkExA g) (hlt : l.stackTraces = false) (hW : wkWF S) (hl0A : wkIs S l0A 11) (h : rX11_kindOf F k n l0A l1I S Φ Ψ) : wkMetX l g yX11_kindOf wvX11_kindOf 7 k n [.ref l0A, .int l1I] S (fun v' S'' => ∃ v : Int32, v' = some (.int v) ∧ Φ v S'' ∧ wkWF S'' ∧ wkExt S S'') (fun E S'' => Ψ E S'' ∧ wkWF S'' ∧ wkExt S S'') := by
  refine wkMetX_of (ret := (some .char)) (by decide) rfl (Nat.le_of_ble_eq_true rfl) rfl hex hlt (by decide) (fun X hg C hR E EX ET => ?_)
  subst hg
  have hE : wkExt S S := wkExt.rf
  have hd : 7 ≤ 7 := Nat.le_refl _
  show wkGo l X 2 0 0 0 S [some (.ref l0A), some (.int l1I)] []
  unfold rX11_kindOf at h
  refine wk_ldcS C hstr rfl dX11_kindOf_0 ?_
  refine wk_aload_n C dX11_kindOf_2 rfl rfl ?_
  refine wk_iload_n C dX11_kindOf_3 rfl rfl ?_
  obtain ⟨k4, n5, hk4, hn5, h⟩ := h
  refine wk_callVX C hR EX (As := [.int l1I]) (cnt := 1) (tX11_entryAt (l := l) hex hlt hW hl0A h) rfl (wkGoodV (List.mem_of_getElem? (i := 1) rfl) (List.mem_of_getElem? (i := 2) rfl) (List.mem_of_getElem? (i := 3) rfl) (List.mem_of_getElem? (i := 4) rfl) hbX11_kindOf_X11_entryAt gdX11_entryAt) (Nat.le_trans (by decide : 6 + 1 ≤ 7) hd) (by decide) hl0A.1 (fun cy => wAt_11 cy _ hl0A.2) rfl ⟨by decide, by decide, by decide +kernel⟩ rfl rfl (Nat.le_of_ble_eq_true rfl) hk4 hn5 dX11_kindOf_4 (fun E S' q => ⟨q.1, q.2.1, wkExt.tr hE q.2.2⟩) (fun v' S2 hp => ?_)
  obtain ⟨v1, rfl, h, hWS2, hXS2, hIS2⟩ := hp
  refine wk_get C (v := .int (gEntry_kind S2 v1)) huX11_kindOf_3 hIS2.1 (fun cy => wAt_3 cy _ hIS2.2) rfl 0 (by decide) (List.mem_of_getElem? (i := 5) rfl) rfl rfl dX11_kindOf_7 ?_
  refine wk_callVS C hstr hR (As := [.int (gEntry_kind S2 v1)]) (cnt := 1) (tJ0_charAt_5068e (l := l) hstr hWS2 rfl h) rfl (wkGoodV (List.mem_of_getElem? (i := 6) rfl) (List.mem_of_getElem? (i := 7) rfl) (List.mem_of_getElem? (i := 8) rfl) (List.mem_of_getElem? (i := 9) rfl) hbX11_kindOf_J0_charAt_5068e gdJ0_charAt_5068e) (Nat.le_trans (by decide : 3 + 1 ≤ 7) hd) (by decide) rfl rfl ⟨by decide, by decide, by decide +kernel⟩ rfl rfl (Nat.le_of_ble_eq_true rfl) hk4 hn5 dX11_kindOf_10 (fun v' S7 hp => ?_)
  obtain ⟨v6, rfl, h, hWS7, hXS7⟩ := hp
  obtain ⟨b11, h⟩ := h
  exact E _ _ _ _ _ _ hk4 hn5 dX11_kindOf_13 (wkNarC b11) ⟨v6, rfl, h, hWS7, (wkExt.tr (wkExt.tr hE hXS2) hXS7)⟩
