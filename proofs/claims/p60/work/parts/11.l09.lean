def wvL_isCarried : List Cond := .code yL_isCarried cL_isCarried 9 (some .boolean) :: (([.methodLink RL 221 yL_carry, .static yL_carry, .initialized RL, .methodLink RL 175 yL_answer, .static yL_answer, .methodLink RL 198 yL_entries, .static yL_entries, .methodLink RL 224 yL_cameFrom, .static yL_cameFrom, .methodLink RL 226 yL_bring, .static yL_bring, .constantLong RL 177 (121), .methodLink RL 187 yL_check, .static yL_check, .constantLong RL 22 (-4000000000000000002), .constantLong RL 32 (-4000000000000000003), .constantLong RL 34 (-4000000000000000004)] : List Cond) ++ (([]) ++ (wvL_carry ++ (wvL_answer ++ (wvL_entries ++ (wvL_cameFrom ++ (wvL_bring ++ (wvL_check))))))))
theorem hbL_isCarried_L_carry : ∀ w ∈ wvL_carry, w ∈ wvL_isCarried := fun w h => List.mem_cons_of_mem _ (List.mem_append_right _ (List.mem_append_right _ (List.mem_append_left _ h)))
theorem hbL_isCarried_L_answer : ∀ w ∈ wvL_answer, w ∈ wvL_isCarried := fun w h => List.mem_cons_of_mem _ (List.mem_append_right _ (List.mem_append_right _ (List.mem_append_right _ (List.mem_append_left _ h))))
theorem hbL_isCarried_L_entries : ∀ w ∈ wvL_entries, w ∈ wvL_isCarried := fun w h => List.mem_cons_of_mem _ (List.mem_append_right _ (List.mem_append_right _ (List.mem_append_right _ (List.mem_append_right _ (List.mem_append_left _ h)))))
theorem hbL_isCarried_L_cameFrom : ∀ w ∈ wvL_cameFrom, w ∈ wvL_isCarried := fun w h => List.mem_cons_of_mem _ (List.mem_append_right _ (List.mem_append_right _ (List.mem_append_right _ (List.mem_append_right _ (List.mem_append_right _ (List.mem_append_left _ h))))))
theorem hbL_isCarried_L_bring : ∀ w ∈ wvL_bring, w ∈ wvL_isCarried := fun w h => List.mem_cons_of_mem _ (List.mem_append_right _ (List.mem_append_right _ (List.mem_append_right _ (List.mem_append_right _ (List.mem_append_right _ (List.mem_append_right _ (List.mem_append_left _ h)))))))
theorem hbL_isCarried_L_check : ∀ w ∈ wvL_check, w ∈ wvL_isCarried := fun w h => List.mem_cons_of_mem _ (List.mem_append_right _ (List.mem_append_right _ (List.mem_append_right _ (List.mem_append_right _ (List.mem_append_right _ (List.mem_append_right _ (List.mem_append_right _ h)))))))
theorem gdL_isCarried : ∀ w ∈ wvL_isCarried, wkGd w := wkGdC rfl (wkGdA (wkGdL (by decide +kernel)) (wkGdA (fun _ h => absurd h List.not_mem_nil) (wkGdA gdL_carry (wkGdA gdL_answer (wkGdA gdL_entries (wkGdA gdL_cameFrom (wkGdA gdL_bring gdL_check)))))))
def rL_isCarried (G : wkG) (F : Nat) (k n : Nat) (l0A : Nat) (l1I : Int32) (l2I : Int32) (S : wPS) (Φ : (Int32 → wPS → Prop)) : Prop :=
  ∃ k4 n5 : Nat, 0 + k4 ≤ k ∧ 0 + n5 ≤ n ∧ rL_carry G F k4 n5 l0A l1I l2I S fun v1 S2 => if 0 ≤ (lg_cmp v1 (0 : Int64)) then (∃ k10 n11 : Nat, (0 + k4) + k10 ≤ k ∧ (0 + n5) + n11 ≤ n ∧ rL_answer G F k10 n11 l0A l1I S2 fun v7 S8 => rL_entries G F l0A S8 fun v12 S13 => if (lg_cmp v1 (v12 - (1 : Int64))) = 0 then (∃ k21 n22 : Nat, ((0 + k4) + k10) + k21 ≤ k ∧ ((0 + n5) + n11) + n22 ≤ n ∧ rL_cameFrom G F k21 n22 l0A (Int64.toInt32 v1) S13 fun v18 S19 => if (lg_cmp v18 (Int32.toInt64 l1I)) = 0 then (∃ k27 n28 : Nat, (((0 + k4) + k10) + k21) + k27 ≤ k ∧ (((0 + n5) + n11) + n22) + n28 ≤ n ∧ rL_answer G F k27 n28 l0A (Int64.toInt32 v1) S19 fun v24 S25 => if (lg_cmp v24 v7) = 0 then (∃ k33 n34 : Nat, ((((0 + k4) + k10) + k21) + k27) + k33 ≤ k ∧ ((((0 + n5) + n11) + n22) + n28) + n34 ≤ n ∧ rL_bring G F k33 n34 l0A (Int64.toInt32 v1) S25 fun v30 S31 => if 0 ≤ (lg_cmp v30 (0 : Int64)) then (if (lg_cmp v7 (121 : Int64)) = 0 then (∃ k46 n47 : Nat, (((((0 + k4) + k10) + k21) + k27) + k33) + k46 ≤ k ∧ (((((0 + n5) + n11) + n22) + n28) + n34) + n47 ≤ n ∧ rL_check G F k46 n47 l0A l1I (1 : Int32) S31 fun v43 S44 => if (lg_cmp v43 (0 : Int64)) = 0 then (Φ (1 : Int32) S44) else (Φ (0 : Int32) S44)) else (∃ k40 n41 : Nat, (((((0 + k4) + k10) + k21) + k27) + k33) + k40 ≤ k ∧ (((((0 + n5) + n11) + n22) + n28) + n34) + n41 ≤ n ∧ rL_check G F k40 n41 l0A l1I (0 : Int32) S31 fun v37 S38 => if (lg_cmp v37 (0 : Int64)) = 0 then (Φ (1 : Int32) S38) else (Φ (0 : Int32) S38))) else (if (lg_cmp v30 (-4000000000000000002 : Int64)) = 0 then (if l2I = (102 : Int32) then (if 0 ≤ (lg_cmp v7 (0 : Int64)) then (Φ (0 : Int32) S31) else (Φ (1 : Int32) S31)) else (Φ (1 : Int32) S31)) else (Φ (0 : Int32) S31))) else (Φ (0 : Int32) S25)) else (Φ (0 : Int32) S19)) else (Φ (0 : Int32) S13)) else (if (lg_cmp v1 (-4000000000000000003 : Int64)) = 0 then (Φ (1 : Int32) S2) else (if (lg_cmp v1 (-4000000000000000004 : Int64)) = 0 then (Φ (1 : Int32) S2) else (Φ (0 : Int32) S2)))
set_option maxHeartbeats 4000000 in
set_option maxRecDepth 100000 in
theorem tL_isCarried {l : Launch} {g : wkG} {F : Nat} {k n : Nat}  {S : wPS} {l0A : Nat} {l1I : Int32} {l2I : Int32} {Φ : (Int32 → wPS → Prop)} (hst : wkSta g) (hstr : wkStr g) (hcs : wkCast g) (hex : wkExA g) (hlt : l.stackTraces = false) (hW : wkWF S) (hl0A : wkIs S l0A 11) (h : rL_isCarried g F k n l0A l1I l2I S Φ) : wkMet l g yL_isCarried wvL_isCarried 58 k n [.ref l0A, .int l1I, .int l2I] S (fun v' S'' => ∃ v : Int32, v' = some (.int v) ∧ Φ v S'' ∧ wkWF S'' ∧ wkExt S S'') := by
  refine wkMet_of (ret := (some .boolean)) (by decide) rfl (Nat.le_of_ble_eq_true rfl) (fun X hg C hR E => ?_)
  subst hg
  have hE : wkExt S S := wkExt.rf
  have hd : 58 ≤ 58 := Nat.le_refl _
  show wkGo l X 9 0 0 0 S [some (.ref l0A), some (.int l1I), some (.int l2I), none, none, none, none, none, none] []
  unfold rL_isCarried at h
  refine wk_aload_n C dL_isCarried_0 rfl rfl ?_
  refine wk_iload_n C dL_isCarried_1 rfl rfl ?_
  refine wk_iload_n C dL_isCarried_2 rfl rfl ?_
  obtain ⟨k4, n5, hk4, hn5, h⟩ := h
  refine wk_callT C hR (As := [.ref l0A, .int l1I, .int l2I]) (cnt := 3) (tL_carry (l := l) hst hstr hcs hex hlt hW hl0A h) rfl (wkGoodW (List.mem_of_getElem? (i := 1) rfl) (List.mem_of_getElem? (i := 2) rfl) (List.mem_of_getElem? (i := 3) rfl) hbL_isCarried_L_carry gdL_carry) (Nat.le_trans (by decide : 57 + 1 ≤ 58) hd) (by decide) ⟨by decide, by decide, by decide +kernel⟩ rfl rfl (Nat.le_of_ble_eq_true rfl) hk4 hn5 dL_isCarried_3 (fun v' S2 hp => ?_)
  obtain ⟨v1, rfl, h, hWS2, hXS2⟩ := hp
  refine wk_lstore_n C (lv' := [some (.ref l0A), some (.int l1I), some (.int l2I), some (.long v1), none, none, none, none, none]) dL_isCarried_6 rfl (by decide) rfl ?_
  refine wk_lload_n C dL_isCarried_7 rfl rfl ?_
  refine wk_lconst C (v := 0) dL_isCarried_8 (by decide) ?_
  refine wk_lcmp C dL_isCarried_9 rfl ?_
  refine wk_if_ge C (tgt := 35) dL_isCarried_10 (by decide) (fun c6 => ?_) (fun c6 => ?_)
  · rw [if_pos c6] at h
    refine wk_aload_n C dL_isCarried_35 rfl rfl ?_
    refine wk_iload_n C dL_isCarried_36 rfl rfl ?_
    obtain ⟨k10, n11, hk10, hn11, h⟩ := h
    refine wk_callT C hR (As := [.ref l0A, .int l1I]) (cnt := 2) (tL_answer (l := l) hst hcs hex hlt hWS2 (hXS2 _ _ hl0A) h) rfl (wkGoodW (List.mem_of_getElem? (i := 4) rfl) (List.mem_of_getElem? (i := 5) rfl) (List.mem_of_getElem? (i := 3) rfl) hbL_isCarried_L_answer gdL_answer) (Nat.le_trans (by decide : 57 + 1 ≤ 58) hd) (by decide) ⟨by decide, by decide, by decide +kernel⟩ rfl rfl (Nat.le_of_ble_eq_true rfl) hk10 hn11 dL_isCarried_37 (fun v' S8 hp => ?_)
    obtain ⟨v7, rfl, h, hWS8, hXS8⟩ := hp
    refine wk_lstore C (lv' := [some (.ref l0A), some (.int l1I), some (.int l2I), some (.long v1), none, some (.long v7), none, none, none]) dL_isCarried_40 (by decide) rfl ?_
    refine wk_lload_n C dL_isCarried_42 rfl rfl ?_
    refine wk_aload_n C dL_isCarried_43 rfl rfl ?_
    refine wk_callW C hR (As := [.ref l0A]) (cnt := 1) (tL_entries (l := l) hWS8 (hXS8 _ _ (hXS2 _ _ hl0A)) h) rfl (wkGoodW (List.mem_of_getElem? (i := 6) rfl) (List.mem_of_getElem? (i := 7) rfl) (List.mem_of_getElem? (i := 3) rfl) hbL_isCarried_L_entries gdL_entries) (Nat.le_trans (by decide : 1 + 1 ≤ 58) hd) (by decide) ⟨by decide, by decide, by decide +kernel⟩ rfl rfl (Nat.le_of_ble_eq_true rfl) hk10 hn11 dL_isCarried_44 (fun v' S13 hp => ?_)
    obtain ⟨v12, rfl, h, hWS13, hXS13⟩ := hp
    refine wk_lconst C (v := 1) dL_isCarried_47 (by decide) ?_
    refine wk_lsub C dL_isCarried_48 rfl ?_
    refine wk_lcmp C dL_isCarried_49 rfl ?_
    refine wk_if_ne C (tgt := 77) dL_isCarried_50 (by decide) (fun c17 => ?_) (fun c17 => ?_)
    · rw [if_neg c17] at h
      refine wk_iconst C (v := 0) dL_isCarried_77 (by decide) ?_
      exact E _ _ _ _ _ _ hk10 hn11 dL_isCarried_78 rfl ⟨(0 : Int32), rfl, h, hWS13, (wkExt.tr (wkExt.tr (wkExt.tr hE hXS2) hXS8) hXS13)⟩
    · rw [if_pos c17] at h
      refine wk_aload_n C dL_isCarried_53 rfl rfl ?_
      refine wk_lload_n C dL_isCarried_54 rfl rfl ?_
      refine wk_l2i C dL_isCarried_55 rfl ?_
      obtain ⟨k21, n22, hk21, hn22, h⟩ := h
      refine wk_callT C hR (As := [.ref l0A, .int (Int64.toInt32 v1)]) (cnt := 2) (tL_cameFrom (l := l) hcs hex hlt hWS13 (hXS13 _ _ (hXS8 _ _ (hXS2 _ _ hl0A))) h) rfl (wkGoodW (List.mem_of_getElem? (i := 8) rfl) (List.mem_of_getElem? (i := 9) rfl) (List.mem_of_getElem? (i := 3) rfl) hbL_isCarried_L_cameFrom gdL_cameFrom) (Nat.le_trans (by decide : 8 + 1 ≤ 58) hd) (by decide) ⟨by decide, by decide, by decide +kernel⟩ rfl rfl (Nat.le_of_ble_eq_true rfl) hk21 hn22 dL_isCarried_56 (fun v' S19 hp => ?_)
      obtain ⟨v18, rfl, h, hWS19, hXS19⟩ := hp
      refine wk_iload_n C dL_isCarried_59 rfl rfl ?_
      refine wk_i2l C dL_isCarried_60 rfl ?_
      refine wk_lcmp C dL_isCarried_61 rfl ?_
      refine wk_if_ne C (tgt := 77) dL_isCarried_62 (by decide) (fun c23 => ?_) (fun c23 => ?_)
      · rw [if_neg c23] at h
        refine wk_iconst C (v := 0) dL_isCarried_77 (by decide) ?_
        exact E _ _ _ _ _ _ hk21 hn22 dL_isCarried_78 rfl ⟨(0 : Int32), rfl, h, hWS19, (wkExt.tr (wkExt.tr (wkExt.tr (wkExt.tr hE hXS2) hXS8) hXS13) hXS19)⟩
      · rw [if_pos c23] at h
        refine wk_aload_n C dL_isCarried_65 rfl rfl ?_
        refine wk_lload_n C dL_isCarried_66 rfl rfl ?_
        refine wk_l2i C dL_isCarried_67 rfl ?_
        obtain ⟨k27, n28, hk27, hn28, h⟩ := h
        refine wk_callT C hR (As := [.ref l0A, .int (Int64.toInt32 v1)]) (cnt := 2) (tL_answer (l := l) hst hcs hex hlt hWS19 (hXS19 _ _ (hXS13 _ _ (hXS8 _ _ (hXS2 _ _ hl0A)))) h) rfl (wkGoodW (List.mem_of_getElem? (i := 4) rfl) (List.mem_of_getElem? (i := 5) rfl) (List.mem_of_getElem? (i := 3) rfl) hbL_isCarried_L_answer gdL_answer) (Nat.le_trans (by decide : 57 + 1 ≤ 58) hd) (by decide) ⟨by decide, by decide, by decide +kernel⟩ rfl rfl (Nat.le_of_ble_eq_true rfl) hk27 hn28 dL_isCarried_68 (fun v' S25 hp => ?_)
        obtain ⟨v24, rfl, h, hWS25, hXS25⟩ := hp
        refine wk_lload C dL_isCarried_71 rfl ?_
        refine wk_lcmp C dL_isCarried_73 rfl ?_
        refine wk_if_eq C (tgt := 79) dL_isCarried_74 (by decide) (fun c29 => ?_) (fun c29 => ?_)
        · rw [if_pos c29] at h
          refine wk_aload_n C dL_isCarried_79 rfl rfl ?_
          refine wk_lload_n C dL_isCarried_80 rfl rfl ?_
          refine wk_l2i C dL_isCarried_81 rfl ?_
          obtain ⟨k33, n34, hk33, hn34, h⟩ := h
          refine wk_callT C hR (As := [.ref l0A, .int (Int64.toInt32 v1)]) (cnt := 2) (tL_bring (l := l) hst hcs hex hlt hWS25 (hXS25 _ _ (hXS19 _ _ (hXS13 _ _ (hXS8 _ _ (hXS2 _ _ hl0A))))) h) rfl (wkGoodW (List.mem_of_getElem? (i := 10) rfl) (List.mem_of_getElem? (i := 11) rfl) (List.mem_of_getElem? (i := 3) rfl) hbL_isCarried_L_bring gdL_bring) (Nat.le_trans (by decide : 57 + 1 ≤ 58) hd) (by decide) ⟨by decide, by decide, by decide +kernel⟩ rfl rfl (Nat.le_of_ble_eq_true rfl) hk33 hn34 dL_isCarried_82 (fun v' S31 hp => ?_)
          obtain ⟨v30, rfl, h, hWS31, hXS31⟩ := hp
          refine wk_lstore C (lv' := [some (.ref l0A), some (.int l1I), some (.int l2I), some (.long v1), none, some (.long v7), none, some (.long v30), none]) dL_isCarried_85 (by decide) rfl ?_
          refine wk_lload C dL_isCarried_87 rfl ?_
          refine wk_lconst C (v := 0) dL_isCarried_89 (by decide) ?_
          refine wk_lcmp C dL_isCarried_90 rfl ?_
          refine wk_if_ge C (tgt := 124) dL_isCarried_91 (by decide) (fun c35 => ?_) (fun c35 => ?_)
          · rw [if_pos c35] at h
            refine wk_aload_n C dL_isCarried_124 rfl rfl ?_
            refine wk_iload_n C dL_isCarried_125 rfl rfl ?_
            refine wk_lload C dL_isCarried_126 rfl ?_
            refine wk_ldc2 C (v := 121) (List.mem_of_getElem? (i := 12) rfl) dL_isCarried_128 ?_
            refine wk_lcmp C dL_isCarried_131 rfl ?_
            refine wk_if_ne C (tgt := 139) dL_isCarried_132 (by decide) (fun c36 => ?_) (fun c36 => ?_)
            · rw [if_neg c36] at h
              refine wk_iconst C (v := 0) dL_isCarried_139 (by decide) ?_
              obtain ⟨k40, n41, hk40, hn41, h⟩ := h
              refine wk_callT C hR (As := [.ref l0A, .int l1I, .int (0 : Int32)]) (cnt := 3) (tL_check (l := l) hst hcs hex hlt hWS31 (hXS31 _ _ (hXS25 _ _ (hXS19 _ _ (hXS13 _ _ (hXS8 _ _ (hXS2 _ _ hl0A)))))) h) rfl (wkGoodW (List.mem_of_getElem? (i := 13) rfl) (List.mem_of_getElem? (i := 14) rfl) (List.mem_of_getElem? (i := 3) rfl) hbL_isCarried_L_check gdL_check) (Nat.le_trans (by decide : 57 + 1 ≤ 58) hd) (by decide) ⟨by decide, by decide, by decide +kernel⟩ rfl rfl (Nat.le_of_ble_eq_true rfl) hk40 hn41 dL_isCarried_140 (fun v' S38 hp => ?_)
              obtain ⟨v37, rfl, h, hWS38, hXS38⟩ := hp
              refine wk_lconst C (v := 0) dL_isCarried_143 (by decide) ?_
              refine wk_lcmp C dL_isCarried_144 rfl ?_
              refine wk_if_ne C (tgt := 152) dL_isCarried_145 (by decide) (fun c42 => ?_) (fun c42 => ?_)
              · rw [if_neg c42] at h
                refine wk_iconst C (v := 0) dL_isCarried_152 (by decide) ?_
                exact E _ _ _ _ _ _ hk40 hn41 dL_isCarried_153 rfl ⟨(0 : Int32), rfl, h, hWS38, (wkExt.tr (wkExt.tr (wkExt.tr (wkExt.tr (wkExt.tr (wkExt.tr (wkExt.tr hE hXS2) hXS8) hXS13) hXS19) hXS25) hXS31) hXS38)⟩
              · rw [if_pos c42] at h
                refine wk_iconst C (v := 1) dL_isCarried_148 (by decide) ?_
                refine wk_goto C (tgt := 153) dL_isCarried_149 (by decide) ?_
                exact E _ _ _ _ _ _ hk40 hn41 dL_isCarried_153 rfl ⟨(1 : Int32), rfl, h, hWS38, (wkExt.tr (wkExt.tr (wkExt.tr (wkExt.tr (wkExt.tr (wkExt.tr (wkExt.tr hE hXS2) hXS8) hXS13) hXS19) hXS25) hXS31) hXS38)⟩
            · rw [if_pos c36] at h
              refine wk_iconst C (v := 1) dL_isCarried_135 (by decide) ?_
              refine wk_goto C (tgt := 140) dL_isCarried_136 (by decide) ?_
              obtain ⟨k46, n47, hk46, hn47, h⟩ := h
              refine wk_callT C hR (As := [.ref l0A, .int l1I, .int (1 : Int32)]) (cnt := 3) (tL_check (l := l) hst hcs hex hlt hWS31 (hXS31 _ _ (hXS25 _ _ (hXS19 _ _ (hXS13 _ _ (hXS8 _ _ (hXS2 _ _ hl0A)))))) h) rfl (wkGoodW (List.mem_of_getElem? (i := 13) rfl) (List.mem_of_getElem? (i := 14) rfl) (List.mem_of_getElem? (i := 3) rfl) hbL_isCarried_L_check gdL_check) (Nat.le_trans (by decide : 57 + 1 ≤ 58) hd) (by decide) ⟨by decide, by decide, by decide +kernel⟩ rfl rfl (Nat.le_of_ble_eq_true rfl) hk46 hn47 dL_isCarried_140 (fun v' S44 hp => ?_)
              obtain ⟨v43, rfl, h, hWS44, hXS44⟩ := hp
              refine wk_lconst C (v := 0) dL_isCarried_143 (by decide) ?_
              refine wk_lcmp C dL_isCarried_144 rfl ?_
              refine wk_if_ne C (tgt := 152) dL_isCarried_145 (by decide) (fun c48 => ?_) (fun c48 => ?_)
              · rw [if_neg c48] at h
                refine wk_iconst C (v := 0) dL_isCarried_152 (by decide) ?_
                exact E _ _ _ _ _ _ hk46 hn47 dL_isCarried_153 rfl ⟨(0 : Int32), rfl, h, hWS44, (wkExt.tr (wkExt.tr (wkExt.tr (wkExt.tr (wkExt.tr (wkExt.tr (wkExt.tr hE hXS2) hXS8) hXS13) hXS19) hXS25) hXS31) hXS44)⟩
              · rw [if_pos c48] at h
                refine wk_iconst C (v := 1) dL_isCarried_148 (by decide) ?_
                refine wk_goto C (tgt := 153) dL_isCarried_149 (by decide) ?_
                exact E _ _ _ _ _ _ hk46 hn47 dL_isCarried_153 rfl ⟨(1 : Int32), rfl, h, hWS44, (wkExt.tr (wkExt.tr (wkExt.tr (wkExt.tr (wkExt.tr (wkExt.tr (wkExt.tr hE hXS2) hXS8) hXS13) hXS19) hXS25) hXS31) hXS44)⟩
          · rw [if_neg c35] at h
            refine wk_lload C dL_isCarried_94 rfl ?_
            refine wk_ldc2 C (v := (-4000000000000000002)) (List.mem_of_getElem? (i := 15) rfl) dL_isCarried_96 ?_
            refine wk_lcmp C dL_isCarried_99 rfl ?_
            refine wk_if_ne C (tgt := 120) dL_isCarried_100 (by decide) (fun c49 => ?_) (fun c49 => ?_)
            · rw [if_neg c49] at h
              refine wk_iconst C (v := 0) dL_isCarried_120 (by decide) ?_
              refine wk_goto C (tgt := 153) dL_isCarried_121 (by decide) ?_
              exact E _ _ _ _ _ _ hk33 hn34 dL_isCarried_153 rfl ⟨(0 : Int32), rfl, h, hWS31, (wkExt.tr (wkExt.tr (wkExt.tr (wkExt.tr (wkExt.tr (wkExt.tr hE hXS2) hXS8) hXS13) hXS19) hXS25) hXS31)⟩
            · rw [if_pos c49] at h
              refine wk_iload_n C dL_isCarried_103 rfl rfl ?_
              refine wk_bipush C (v := 102) dL_isCarried_104 (by decide) ?_
              refine wk_icmp_ne C (tgt := 116) dL_isCarried_106 (by decide) (fun c50 => ?_) (fun c50 => ?_)
              · rw [if_neg c50] at h
                refine wk_iconst C (v := 1) dL_isCarried_116 (by decide) ?_
                refine wk_goto C (tgt := 153) dL_isCarried_117 (by decide) ?_
                exact E _ _ _ _ _ _ hk33 hn34 dL_isCarried_153 rfl ⟨(1 : Int32), rfl, h, hWS31, (wkExt.tr (wkExt.tr (wkExt.tr (wkExt.tr (wkExt.tr (wkExt.tr hE hXS2) hXS8) hXS13) hXS19) hXS25) hXS31)⟩
              · rw [if_pos c50] at h
                refine wk_lload C dL_isCarried_109 rfl ?_
                refine wk_lconst C (v := 0) dL_isCarried_111 (by decide) ?_
                refine wk_lcmp C dL_isCarried_112 rfl ?_
                refine wk_if_ge C (tgt := 120) dL_isCarried_113 (by decide) (fun c51 => ?_) (fun c51 => ?_)
                · rw [if_pos c51] at h
                  refine wk_iconst C (v := 0) dL_isCarried_120 (by decide) ?_
                  refine wk_goto C (tgt := 153) dL_isCarried_121 (by decide) ?_
                  exact E _ _ _ _ _ _ hk33 hn34 dL_isCarried_153 rfl ⟨(0 : Int32), rfl, h, hWS31, (wkExt.tr (wkExt.tr (wkExt.tr (wkExt.tr (wkExt.tr (wkExt.tr hE hXS2) hXS8) hXS13) hXS19) hXS25) hXS31)⟩
                · rw [if_neg c51] at h
                  refine wk_iconst C (v := 1) dL_isCarried_116 (by decide) ?_
                  refine wk_goto C (tgt := 153) dL_isCarried_117 (by decide) ?_
                  exact E _ _ _ _ _ _ hk33 hn34 dL_isCarried_153 rfl ⟨(1 : Int32), rfl, h, hWS31, (wkExt.tr (wkExt.tr (wkExt.tr (wkExt.tr (wkExt.tr (wkExt.tr hE hXS2) hXS8) hXS13) hXS19) hXS25) hXS31)⟩
        · rw [if_neg c29] at h
          refine wk_iconst C (v := 0) dL_isCarried_77 (by decide) ?_
          exact E _ _ _ _ _ _ hk27 hn28 dL_isCarried_78 rfl ⟨(0 : Int32), rfl, h, hWS25, (wkExt.tr (wkExt.tr (wkExt.tr (wkExt.tr (wkExt.tr hE hXS2) hXS8) hXS13) hXS19) hXS25)⟩
  · rw [if_neg c6] at h
    refine wk_lload_n C dL_isCarried_13 rfl rfl ?_
    refine wk_ldc2 C (v := (-4000000000000000003)) (List.mem_of_getElem? (i := 16) rfl) dL_isCarried_14 ?_
    refine wk_lcmp C dL_isCarried_17 rfl ?_
    refine wk_if_eq C (tgt := 29) dL_isCarried_18 (by decide) (fun c52 => ?_) (fun c52 => ?_)
    · rw [if_pos c52] at h
      refine wk_iconst C (v := 1) dL_isCarried_29 (by decide) ?_
      refine wk_goto C (tgt := 34) dL_isCarried_30 (by decide) ?_
      exact E _ _ _ _ _ _ hk4 hn5 dL_isCarried_34 rfl ⟨(1 : Int32), rfl, h, hWS2, (wkExt.tr hE hXS2)⟩
    · rw [if_neg c52] at h
      refine wk_lload_n C dL_isCarried_21 rfl rfl ?_
      refine wk_ldc2 C (v := (-4000000000000000004)) (List.mem_of_getElem? (i := 17) rfl) dL_isCarried_22 ?_
      refine wk_lcmp C dL_isCarried_25 rfl ?_
      refine wk_if_ne C (tgt := 33) dL_isCarried_26 (by decide) (fun c53 => ?_) (fun c53 => ?_)
      · rw [if_neg c53] at h
        refine wk_iconst C (v := 0) dL_isCarried_33 (by decide) ?_
        exact E _ _ _ _ _ _ hk4 hn5 dL_isCarried_34 rfl ⟨(0 : Int32), rfl, h, hWS2, (wkExt.tr hE hXS2)⟩
      · rw [if_pos c53] at h
        refine wk_iconst C (v := 1) dL_isCarried_29 (by decide) ?_
        refine wk_goto C (tgt := 34) dL_isCarried_30 (by decide) ?_
        exact E _ _ _ _ _ _ hk4 hn5 dL_isCarried_34 rfl ⟨(1 : Int32), rfl, h, hWS2, (wkExt.tr hE hXS2)⟩
def wvL_law : List Cond := .tt :: (([.methodLink RL 243 yL_person, .static yL_person, .initialized RL, .methodLink RL 245 yL_areOne, .static yL_areOne, .methodLink RL 249 yL_settle, .static yL_settle, .methodLink RL 157 yL_drawn, .static yL_drawn, .methodLink RL 230 yJ0_charAt_5068e, .instanceMethod yJ0_charAt_5068e, .selects RJ0 yJ0_charAt_5068e yJ0_charAt_5068e, .initialized RJ0, .methodLink RL 235 yL_limit, .static yL_limit, .methodLink RL 207 yL_open, .static yL_open, .methodLink RL 239 yL_writes, .static yL_writes, .constantLong RL 18 (-4000000000000000001), .methodLink RL 270 yL_isAnew, .static yL_isAnew, .methodLink RL 274 yL_isSound, .static yL_isSound, .constant RL 251 (1000000), .methodLink RL 219 yL_checksum, .static yL_checksum, .methodLink RL 210 yL_items, .static yL_items, .constantLong RL 252 (-4000000000000000000), .methodLink RL 254 yL_drop, .static yL_drop, .methodLink RL 161 yL_kindOf, .static yL_kindOf, .methodLink RL 256 yL_setBound, .static yL_setBound, .constantLong RL 22 (-4000000000000000002), .methodLink RL 258 yL_lean, .static yL_lean, .constantLong RL 260 (-2000000000000000000), .methodLink RL 262 yL_stand, .static yL_stand, .methodLink RL 181 yL_borrow, .static yL_borrow, .methodLink RL 175 yL_answer, .static yL_answer, .constantLong RL 179 (110), .methodLink RL 264 yL_claim, .static yL_claim, .constantLong RL 177 (121), .constant RL 267 (40000), .methodLink RL 200 yL_isOne, .static yL_isOne, .methodLink RL 268 yL_undo, .static yL_undo, .constantLong RL 276 (102), .methodLink RL 278 yL_isCarried, .static yL_isCarried, .classLink RL 9 RX11, .instantiable RX11 19, .initialized RX11, .methodLink RL 204 yX11_init, .instanceMethod yX11_init] : List Cond) ++ ((wsX110) ++ (wvL_person ++ (wvL_areOne ++ (wvL_settle ++ (wvL_drawn ++ (wvJ0_charAt_5068e ++ (wvL_limit ++ (wvL_open ++ (wvL_writes ++ (wvL_isAnew ++ (wvL_isSound ++ (wvL_checksum ++ (wvL_items ++ (wvL_drop ++ (wvL_kindOf ++ (wvL_setBound ++ (wvL_lean ++ (wvL_stand ++ (wvL_borrow ++ (wvL_answer ++ (wvL_claim ++ (wvL_isOne ++ (wvL_undo ++ (wvL_isCarried ++ (wvX11_init))))))))))))))))))))))))))
theorem huL_law_11 : ∀ w ∈ u_ws RX11 TX11 19, w ∈ wvL_law := fun w h => List.mem_cons_of_mem _ (List.mem_append_right _ (List.mem_append_left _ h))
theorem hbL_law_L_person : ∀ w ∈ wvL_person, w ∈ wvL_law := fun w h => List.mem_cons_of_mem _ (List.mem_append_right _ (List.mem_append_right _ (List.mem_append_left _ h)))
theorem hbL_law_L_areOne : ∀ w ∈ wvL_areOne, w ∈ wvL_law := fun w h => List.mem_cons_of_mem _ (List.mem_append_right _ (List.mem_append_right _ (List.mem_append_right _ (List.mem_append_left _ h))))
theorem hbL_law_L_settle : ∀ w ∈ wvL_settle, w ∈ wvL_law := fun w h => List.mem_cons_of_mem _ (List.mem_append_right _ (List.mem_append_right _ (List.mem_append_right _ (List.mem_append_right _ (List.mem_append_left _ h)))))
theorem hbL_law_L_drawn : ∀ w ∈ wvL_drawn, w ∈ wvL_law := fun w h => List.mem_cons_of_mem _ (List.mem_append_right _ (List.mem_append_right _ (List.mem_append_right _ (List.mem_append_right _ (List.mem_append_right _ (List.mem_append_left _ h))))))
theorem hbL_law_J0_charAt_5068e : ∀ w ∈ wvJ0_charAt_5068e, w ∈ wvL_law := fun w h => List.mem_cons_of_mem _ (List.mem_append_right _ (List.mem_append_right _ (List.mem_append_right _ (List.mem_append_right _ (List.mem_append_right _ (List.mem_append_right _ (List.mem_append_left _ h)))))))
theorem hbL_law_L_limit : ∀ w ∈ wvL_limit, w ∈ wvL_law := fun w h => List.mem_cons_of_mem _ (List.mem_append_right _ (List.mem_append_right _ (List.mem_append_right _ (List.mem_append_right _ (List.mem_append_right _ (List.mem_append_right _ (List.mem_append_right _ (List.mem_append_left _ h))))))))
theorem hbL_law_L_open : ∀ w ∈ wvL_open, w ∈ wvL_law := fun w h => List.mem_cons_of_mem _ (List.mem_append_right _ (List.mem_append_right _ (List.mem_append_right _ (List.mem_append_right _ (List.mem_append_right _ (List.mem_append_right _ (List.mem_append_right _ (List.mem_append_right _ (List.mem_append_left _ h)))))))))
theorem hbL_law_L_writes : ∀ w ∈ wvL_writes, w ∈ wvL_law := fun w h => List.mem_cons_of_mem _ (List.mem_append_right _ (List.mem_append_right _ (List.mem_append_right _ (List.mem_append_right _ (List.mem_append_right _ (List.mem_append_right _ (List.mem_append_right _ (List.mem_append_right _ (List.mem_append_right _ (List.mem_append_left _ h))))))))))
theorem hbL_law_L_isAnew : ∀ w ∈ wvL_isAnew, w ∈ wvL_law := fun w h => List.mem_cons_of_mem _ (List.mem_append_right _ (List.mem_append_right _ (List.mem_append_right _ (List.mem_append_right _ (List.mem_append_right _ (List.mem_append_right _ (List.mem_append_right _ (List.mem_append_right _ (List.mem_append_right _ (List.mem_append_right _ (List.mem_append_left _ h)))))))))))
theorem hbL_law_L_isSound : ∀ w ∈ wvL_isSound, w ∈ wvL_law := fun w h => List.mem_cons_of_mem _ (List.mem_append_right _ (List.mem_append_right _ (List.mem_append_right _ (List.mem_append_right _ (List.mem_append_right _ (List.mem_append_right _ (List.mem_append_right _ (List.mem_append_right _ (List.mem_append_right _ (List.mem_append_right _ (List.mem_append_right _ (List.mem_append_left _ h))))))))))))
theorem hbL_law_L_checksum : ∀ w ∈ wvL_checksum, w ∈ wvL_law := fun w h => List.mem_cons_of_mem _ (List.mem_append_right _ (List.mem_append_right _ (List.mem_append_right _ (List.mem_append_right _ (List.mem_append_right _ (List.mem_append_right _ (List.mem_append_right _ (List.mem_append_right _ (List.mem_append_right _ (List.mem_append_right _ (List.mem_append_right _ (List.mem_append_right _ (List.mem_append_left _ h)))))))))))))
theorem hbL_law_L_items : ∀ w ∈ wvL_items, w ∈ wvL_law := fun w h => List.mem_cons_of_mem _ (List.mem_append_right _ (List.mem_append_right _ (List.mem_append_right _ (List.mem_append_right _ (List.mem_append_right _ (List.mem_append_right _ (List.mem_append_right _ (List.mem_append_right _ (List.mem_append_right _ (List.mem_append_right _ (List.mem_append_right _ (List.mem_append_right _ (List.mem_append_right _ (List.mem_append_left _ h))))))))))))))
theorem hbL_law_L_drop : ∀ w ∈ wvL_drop, w ∈ wvL_law := fun w h => List.mem_cons_of_mem _ (List.mem_append_right _ (List.mem_append_right _ (List.mem_append_right _ (List.mem_append_right _ (List.mem_append_right _ (List.mem_append_right _ (List.mem_append_right _ (List.mem_append_right _ (List.mem_append_right _ (List.mem_append_right _ (List.mem_append_right _ (List.mem_append_right _ (List.mem_append_right _ (List.mem_append_right _ (List.mem_append_left _ h)))))))))))))))
theorem hbL_law_L_kindOf : ∀ w ∈ wvL_kindOf, w ∈ wvL_law := fun w h => List.mem_cons_of_mem _ (List.mem_append_right _ (List.mem_append_right _ (List.mem_append_right _ (List.mem_append_right _ (List.mem_append_right _ (List.mem_append_right _ (List.mem_append_right _ (List.mem_append_right _ (List.mem_append_right _ (List.mem_append_right _ (List.mem_append_right _ (List.mem_append_right _ (List.mem_append_right _ (List.mem_append_right _ (List.mem_append_right _ (List.mem_append_left _ h))))))))))))))))
theorem hbL_law_L_setBound : ∀ w ∈ wvL_setBound, w ∈ wvL_law := fun w h => List.mem_cons_of_mem _ (List.mem_append_right _ (List.mem_append_right _ (List.mem_append_right _ (List.mem_append_right _ (List.mem_append_right _ (List.mem_append_right _ (List.mem_append_right _ (List.mem_append_right _ (List.mem_append_right _ (List.mem_append_right _ (List.mem_append_right _ (List.mem_append_right _ (List.mem_append_right _ (List.mem_append_right _ (List.mem_append_right _ (List.mem_append_right _ (List.mem_append_left _ h)))))))))))))))))
theorem hbL_law_L_lean : ∀ w ∈ wvL_lean, w ∈ wvL_law := fun w h => List.mem_cons_of_mem _ (List.mem_append_right _ (List.mem_append_right _ (List.mem_append_right _ (List.mem_append_right _ (List.mem_append_right _ (List.mem_append_right _ (List.mem_append_right _ (List.mem_append_right _ (List.mem_append_right _ (List.mem_append_right _ (List.mem_append_right _ (List.mem_append_right _ (List.mem_append_right _ (List.mem_append_right _ (List.mem_append_right _ (List.mem_append_right _ (List.mem_append_right _ (List.mem_append_left _ h))))))))))))))))))
theorem hbL_law_L_stand : ∀ w ∈ wvL_stand, w ∈ wvL_law := fun w h => List.mem_cons_of_mem _ (List.mem_append_right _ (List.mem_append_right _ (List.mem_append_right _ (List.mem_append_right _ (List.mem_append_right _ (List.mem_append_right _ (List.mem_append_right _ (List.mem_append_right _ (List.mem_append_right _ (List.mem_append_right _ (List.mem_append_right _ (List.mem_append_right _ (List.mem_append_right _ (List.mem_append_right _ (List.mem_append_right _ (List.mem_append_right _ (List.mem_append_right _ (List.mem_append_right _ (List.mem_append_left _ h)))))))))))))))))))
theorem hbL_law_L_borrow : ∀ w ∈ wvL_borrow, w ∈ wvL_law := fun w h => List.mem_cons_of_mem _ (List.mem_append_right _ (List.mem_append_right _ (List.mem_append_right _ (List.mem_append_right _ (List.mem_append_right _ (List.mem_append_right _ (List.mem_append_right _ (List.mem_append_right _ (List.mem_append_right _ (List.mem_append_right _ (List.mem_append_right _ (List.mem_append_right _ (List.mem_append_right _ (List.mem_append_right _ (List.mem_append_right _ (List.mem_append_right _ (List.mem_append_right _ (List.mem_append_right _ (List.mem_append_right _ (List.mem_append_left _ h))))))))))))))))))))
theorem hbL_law_L_answer : ∀ w ∈ wvL_answer, w ∈ wvL_law := fun w h => List.mem_cons_of_mem _ (List.mem_append_right _ (List.mem_append_right _ (List.mem_append_right _ (List.mem_append_right _ (List.mem_append_right _ (List.mem_append_right _ (List.mem_append_right _ (List.mem_append_right _ (List.mem_append_right _ (List.mem_append_right _ (List.mem_append_right _ (List.mem_append_right _ (List.mem_append_right _ (List.mem_append_right _ (List.mem_append_right _ (List.mem_append_right _ (List.mem_append_right _ (List.mem_append_right _ (List.mem_append_right _ (List.mem_append_right _ (List.mem_append_left _ h)))))))))))))))))))))
theorem hbL_law_L_claim : ∀ w ∈ wvL_claim, w ∈ wvL_law := fun w h => List.mem_cons_of_mem _ (List.mem_append_right _ (List.mem_append_right _ (List.mem_append_right _ (List.mem_append_right _ (List.mem_append_right _ (List.mem_append_right _ (List.mem_append_right _ (List.mem_append_right _ (List.mem_append_right _ (List.mem_append_right _ (List.mem_append_right _ (List.mem_append_right _ (List.mem_append_right _ (List.mem_append_right _ (List.mem_append_right _ (List.mem_append_right _ (List.mem_append_right _ (List.mem_append_right _ (List.mem_append_right _ (List.mem_append_right _ (List.mem_append_right _ (List.mem_append_left _ h))))))))))))))))))))))
theorem hbL_law_L_isOne : ∀ w ∈ wvL_isOne, w ∈ wvL_law := fun w h => List.mem_cons_of_mem _ (List.mem_append_right _ (List.mem_append_right _ (List.mem_append_right _ (List.mem_append_right _ (List.mem_append_right _ (List.mem_append_right _ (List.mem_append_right _ (List.mem_append_right _ (List.mem_append_right _ (List.mem_append_right _ (List.mem_append_right _ (List.mem_append_right _ (List.mem_append_right _ (List.mem_append_right _ (List.mem_append_right _ (List.mem_append_right _ (List.mem_append_right _ (List.mem_append_right _ (List.mem_append_right _ (List.mem_append_right _ (List.mem_append_right _ (List.mem_append_right _ (List.mem_append_left _ h)))))))))))))))))))))))
theorem hbL_law_L_undo : ∀ w ∈ wvL_undo, w ∈ wvL_law := fun w h => List.mem_cons_of_mem _ (List.mem_append_right _ (List.mem_append_right _ (List.mem_append_right _ (List.mem_append_right _ (List.mem_append_right _ (List.mem_append_right _ (List.mem_append_right _ (List.mem_append_right _ (List.mem_append_right _ (List.mem_append_right _ (List.mem_append_right _ (List.mem_append_right _ (List.mem_append_right _ (List.mem_append_right _ (List.mem_append_right _ (List.mem_append_right _ (List.mem_append_right _ (List.mem_append_right _ (List.mem_append_right _ (List.mem_append_right _ (List.mem_append_right _ (List.mem_append_right _ (List.mem_append_right _ (List.mem_append_left _ h))))))))))))))))))))))))
theorem hbL_law_L_isCarried : ∀ w ∈ wvL_isCarried, w ∈ wvL_law := fun w h => List.mem_cons_of_mem _ (List.mem_append_right _ (List.mem_append_right _ (List.mem_append_right _ (List.mem_append_right _ (List.mem_append_right _ (List.mem_append_right _ (List.mem_append_right _ (List.mem_append_right _ (List.mem_append_right _ (List.mem_append_right _ (List.mem_append_right _ (List.mem_append_right _ (List.mem_append_right _ (List.mem_append_right _ (List.mem_append_right _ (List.mem_append_right _ (List.mem_append_right _ (List.mem_append_right _ (List.mem_append_right _ (List.mem_append_right _ (List.mem_append_right _ (List.mem_append_right _ (List.mem_append_right _ (List.mem_append_right _ (List.mem_append_left _ h)))))))))))))))))))))))))
theorem hbL_law_X11_init : ∀ w ∈ wvX11_init, w ∈ wvL_law := fun w h => List.mem_cons_of_mem _ (List.mem_append_right _ (List.mem_append_right _ (List.mem_append_right _ (List.mem_append_right _ (List.mem_append_right _ (List.mem_append_right _ (List.mem_append_right _ (List.mem_append_right _ (List.mem_append_right _ (List.mem_append_right _ (List.mem_append_right _ (List.mem_append_right _ (List.mem_append_right _ (List.mem_append_right _ (List.mem_append_right _ (List.mem_append_right _ (List.mem_append_right _ (List.mem_append_right _ (List.mem_append_right _ (List.mem_append_right _ (List.mem_append_right _ (List.mem_append_right _ (List.mem_append_right _ (List.mem_append_right _ (List.mem_append_right _ h)))))))))))))))))))))))))
theorem gdL_law : ∀ w ∈ wvL_law, wkGd w := wkGdC rfl (wkGdA (wkGdL (by decide +kernel)) (wkGdA gdX11 (wkGdA gdL_person (wkGdA gdL_areOne (wkGdA gdL_settle (wkGdA gdL_drawn (wkGdA gdJ0_charAt_5068e (wkGdA gdL_limit (wkGdA gdL_open (wkGdA gdL_writes (wkGdA gdL_isAnew (wkGdA gdL_isSound (wkGdA gdL_checksum (wkGdA gdL_items (wkGdA gdL_drop (wkGdA gdL_kindOf (wkGdA gdL_setBound (wkGdA gdL_lean (wkGdA gdL_stand (wkGdA gdL_borrow (wkGdA gdL_answer (wkGdA gdL_claim (wkGdA gdL_isOne (wkGdA gdL_undo (wkGdA gdL_isCarried gdX11_init)))))))))))))))))))))))))
def rL_law_b0 (G : wkG) (F : Nat) (k n : Nat) (rec : Nat → Nat → Nat → Nat → Int32 → Int32 → Int32 → Int32 → Int32 → Int64 → Int32 → Int64 → wPS → (Int32 → wPS → Prop) → Prop) (c s : Nat) (l1A : Nat) (l2I : Int32) (l3I : Int32) (S : wPS) (Φ : (Int32 → wPS → Prop)) : Prop :=
  if l2I ≤ l3I then (∃ k5 n6 : Nat, c + k5 ≤ k ∧ s + n6 ≤ n ∧ rL_person G F k5 n6 l1A S fun v2 S3 => if (lg_cmp v2 (0 : Int64)) = 0 then (∃ k11 n12 : Nat, (c + k5) + k11 ≤ k ∧ (s + n6) + n12 ≤ n ∧ rL_areOne G F k11 n12 l1A (700 : Int32) S3 fun v8 S9 => if v8 = 0 then (Φ (0 : Int32) S9) else (∃ k17 n18 : Nat, ((c + k5) + k11) + k17 ≤ k ∧ ((s + n6) + n12) + n18 ≤ n ∧ rL_settle G F k17 n18 l1A S9 fun v14 S15 => rec 2 (((c + k5) + k11) + k17) (((s + n6) + n12) + n18) l1A l2I (0 : Int32) 0 0 0 0 0 0 S15 Φ)) else (Φ (0 : Int32) S3)) else (rL_drawn G F ((1 : Int32) + l3I) (12 : Int32) S fun v19 S20 => rJ0_charAt_5068e F v19 S20 fun v24 S25 => ∃ k32 n33 : Nat, c + k32 ≤ k ∧ s + n33 ≤ n ∧ rL_limit G F k32 n33 v24 (0 : Int32) S25 fun v29 S30 => ∃ k37 n38 : Nat, (c + k32) + k37 ≤ k ∧ (s + n33) + n38 ≤ n ∧ rL_limit G F k37 n38 v24 (1 : Int32) S30 fun v34 S35 => rL_drawn G F ((10 : Int32) + l3I) v34 S35 fun v39 S40 => wkLt ((v29 + v39)) fun x44 => ∃ k48 n49 : Nat, ((c + k32) + k37) + k48 ≤ k ∧ ((s + n33) + n38) + n49 ≤ n ∧ rL_limit G F k48 n49 v24 (2 : Int32) S40 fun v45 S46 => ∃ k53 n54 : Nat, (((c + k32) + k37) + k48) + k53 ≤ k ∧ (((s + n33) + n38) + n49) + n54 ≤ n ∧ rL_limit G F k53 n54 v24 (3 : Int32) S46 fun v50 S51 => rL_drawn G F ((20 : Int32) + l3I) v50 S51 fun v55 S56 => ∃ k63 n64 : Nat, ((((c + k32) + k37) + k48) + k53) + k63 ≤ k ∧ ((((s + n33) + n38) + n49) + n54) + n64 ≤ n ∧ rL_open G F k63 n64 l1A v24 x44 (v45 + v55) S56 fun v60 S61 => if (lg_cmp v60 (Int32.toInt64 l3I)) = 0 then (rL_drawn G F ((30 : Int32) + l3I) (13 : Int32) S61 fun v66 S67 => rec 1 (((((c + k32) + k37) + k48) + k53) + k63) (((((s + n33) + n38) + n49) + n54) + n64) l1A l2I l3I 0 0 v66 0 (0 : Int32) 0 S67 Φ) else (Φ (0 : Int32) S61))
def rL_law_b1 (G : wkG) (F : Nat) (k n : Nat) (rec : Nat → Nat → Nat → Nat → Int32 → Int32 → Int32 → Int32 → Int32 → Int64 → Int32 → Int64 → wPS → (Int32 → wPS → Prop) → Prop) (c s : Nat) (l1A : Nat) (l2I : Int32) (l3I : Int32) (l6I : Int32) (l7I : Int32) (S : wPS) (Φ : (Int32 → wPS → Prop)) : Prop :=
  if l6I ≤ l7I then (wkLt (l3I + (1 : Int32)) fun x72 => rec 0 c s l1A l2I x72 0 0 0 0 0 0 S Φ) else (∃ k76 n77 : Nat, c + k76 ≤ k ∧ s + n77 ≤ n ∧ rL_writes G F k76 n77 l1A l3I (-1 : Int32) (((40 : Int32) + ((100 : Int32) * l3I)) + ((7 : Int32) * l7I)) S fun v73 S74 => if (lg_cmp v73 (-4000000000000000001 : Int64)) = 0 then (Φ (0 : Int32) S74) else (if (lg_cmp v73 (Int32.toInt64 l6I)) ≤ 0 then (wkLt (l7I + (1 : Int32)) fun x80 => rec 1 (c + k76) (s + n77) l1A l2I l3I 0 0 l6I 0 x80 0 S74 Φ) else (Φ (0 : Int32) S74)))
def rL_law_b2 (G : wkG) (F : Nat) (k n : Nat) (rec : Nat → Nat → Nat → Nat → Int32 → Int32 → Int32 → Int32 → Int32 → Int64 → Int32 → Int64 → wPS → (Int32 → wPS → Prop) → Prop) (c s : Nat) (l1A : Nat) (l2I : Int32) (l3I : Int32) (S : wPS) (Φ : (Int32 → wPS → Prop)) : Prop :=
  if (14 : Int32) ≤ l3I then (∃ k85 n86 : Nat, c + k85 ≤ k ∧ s + n86 ≤ n ∧ rL_isAnew G F k85 n86 l1A S fun v82 S83 => if v82 = 0 then (Φ (0 : Int32) S83) else (∃ k91 n92 : Nat, (c + k85) + k91 ≤ k ∧ (s + n86) + n92 ≤ n ∧ rL_settle G F k91 n92 l1A S83 fun v88 S89 => if (lg_cmp v88 (0 : Int64)) < 0 then (Φ (0 : Int32) S89) else (∃ k97 n98 : Nat, ((c + k85) + k91) + k97 ≤ k ∧ ((s + n86) + n92) + n98 ≤ n ∧ rL_settle G F k97 n98 l1A S89 fun v94 S95 => if (lg_cmp v94 (0 : Int64)) = 0 then (∃ k103 n104 : Nat, (((c + k85) + k91) + k97) + k103 ≤ k ∧ (((s + n86) + n92) + n98) + n104 ≤ n ∧ rL_isSound G F k103 n104 l1A S95 fun v100 S101 => if (lg_cmp v100 (1 : Int64)) = 0 then (rec 4 ((((c + k85) + k91) + k97) + k103) ((((s + n86) + n92) + n98) + n104) l1A l2I (0 : Int32) 0 0 0 0 0 0 S101 Φ) else (Φ (0 : Int32) S101)) else (Φ (0 : Int32) S95)))) else (rL_drawn G F ((60 : Int32) + l3I) (1000000 : Int32) S fun v106 S107 => ¬ l2I = 0 ∧ wkLt ((v106 - v106 / l2I * l2I)) fun x112 => ∃ k116 n117 : Nat, c + k116 ≤ k ∧ s + n117 ≤ n ∧ rL_checksum G F k116 n117 l1A S107 fun v113 S114 => if ((v106 / (10 : Int32)) - (v106 / (10 : Int32)) / (8 : Int32) * (8 : Int32)) = 0 then (∃ k123 n124 : Nat, (c + k116) + k123 ≤ k ∧ (s + n117) + n124 ≤ n ∧ rL_writes G F k123 n124 l1A x112 (-1 : Int32) ((800 : Int32) + ((9 : Int32) * l3I)) S114 fun v120 S121 => rec 3 ((c + k116) + k123) ((s + n117) + n124) l1A l2I l3I v106 x112 0 v113 0 v120 S121 Φ) else if ((v106 / (10 : Int32)) - (v106 / (10 : Int32)) / (8 : Int32) * (8 : Int32)) = 1 then (∃ k129 n130 : Nat, (c + k116) + k129 ≤ k ∧ (s + n117) + n130 ≤ n ∧ rL_items G F k129 n130 l1A x112 S114 fun v126 S127 => if (lg_cmp v126 (0 : Int64)) = 0 then (rec 3 ((c + k116) + k129) ((s + n117) + n130) l1A l2I l3I v106 x112 0 v113 0 (-4000000000000000000 : Int64) S127 Φ) else (∃ k135 n136 : Nat, ((c + k116) + k129) + k135 ≤ k ∧ ((s + n117) + n130) + n136 ≤ n ∧ rL_items G F k135 n136 l1A x112 S127 fun v132 S133 => ¬ (Int64.toInt32 v132) = 0 ∧ ∃ k141 n142 : Nat, (((c + k116) + k129) + k135) + k141 ≤ k ∧ (((s + n117) + n130) + n136) + n142 ≤ n ∧ rL_writes G F k141 n142 l1A x112 ((v106 / (80 : Int32)) - (v106 / (80 : Int32)) / (Int64.toInt32 v132) * (Int64.toInt32 v132)) ((800 : Int32) + ((9 : Int32) * l3I)) S133 fun v138 S139 => rec 3 ((((c + k116) + k129) + k135) + k141) ((((s + n117) + n130) + n136) + n142) l1A l2I l3I v106 x112 0 v113 0 v138 S139 Φ)) else if ((v106 / (10 : Int32)) - (v106 / (10 : Int32)) / (8 : Int32) * (8 : Int32)) = 2 then (∃ k147 n148 : Nat, (c + k116) + k147 ≤ k ∧ (s + n117) + n148 ≤ n ∧ rL_drop G F k147 n148 l1A x112 ((v106 / (80 : Int32)) - (v106 / (80 : Int32)) / (3 : Int32) * (3 : Int32)) S114 fun v144 S145 => rec 3 ((c + k116) + k147) ((s + n117) + n148) l1A l2I l3I v106 x112 0 v113 0 v144 S145 Φ) else if ((v106 / (10 : Int32)) - (v106 / (10 : Int32)) / (8 : Int32) * (8 : Int32)) = 3 then (∃ k153 n154 : Nat, (c + k116) + k153 ≤ k ∧ (s + n117) + n154 ≤ n ∧ rL_kindOf G F k153 n154 l1A x112 S114 fun v150 S151 => ∃ k158 n159 : Nat, ((c + k116) + k153) + k158 ≤ k ∧ ((s + n117) + n154) + n159 ≤ n ∧ rL_limit G F k158 n159 ((Int32.toUInt32 (Int64.toInt32 v150)) % 65536).toInt32 (2 : Int32) S151 fun v155 S156 => ∃ k163 n164 : Nat, (((c + k116) + k153) + k158) + k163 ≤ k ∧ (((s + n117) + n154) + n159) + n164 ≤ n ∧ rL_kindOf G F k163 n164 l1A x112 S156 fun v160 S161 => ∃ k168 n169 : Nat, ((((c + k116) + k153) + k158) + k163) + k168 ≤ k ∧ ((((s + n117) + n154) + n159) + n164) + n169 ≤ n ∧ rL_limit G F k168 n169 ((Int32.toUInt32 (Int64.toInt32 v160)) % 65536).toInt32 (3 : Int32) S161 fun v165 S166 => ¬ v165 = 0 ∧ ∃ k174 n175 : Nat, (((((c + k116) + k153) + k158) + k163) + k168) + k174 ≤ k ∧ (((((s + n117) + n154) + n159) + n164) + n169) + n175 ≤ n ∧ rL_setBound G F k174 n175 l1A x112 (v155 + ((v106 / (80 : Int32)) - (v106 / (80 : Int32)) / v165 * v165)) S166 fun v171 S172 => if (lg_cmp v171 (-4000000000000000002 : Int64)) = 0 then (rec 3 ((((((c + k116) + k153) + k158) + k163) + k168) + k174) ((((((s + n117) + n154) + n159) + n164) + n169) + n175) l1A l2I l3I v106 x112 0 v113 0 (-4000000000000000000 : Int64) S172 Φ) else (rec 3 ((((((c + k116) + k153) + k158) + k163) + k168) + k174) ((((((s + n117) + n154) + n159) + n164) + n169) + n175) l1A l2I l3I v106 x112 0 v113 0 (0 : Int64) S172 Φ)) else if ((v106 / (10 : Int32)) - (v106 / (10 : Int32)) / (8 : Int32) * (8 : Int32)) = 4 then (¬ l2I = 0 ∧ ∃ k182 n183 : Nat, (c + k116) + k182 ≤ k ∧ (s + n117) + n183 ≤ n ∧ rL_lean G F k182 n183 l1A x112 ((v106 / (80 : Int32)) - (v106 / (80 : Int32)) / l2I * l2I) (((v106 / (800 : Int32)) - (v106 / (800 : Int32)) / (41 : Int32) * (41 : Int32)) - (20 : Int32)) S114 fun v179 S180 => if 0 ≤ (lg_cmp v179 (-2000000000000000000 : Int64)) then (rec 3 ((c + k116) + k182) ((s + n117) + n183) l1A l2I l3I v106 x112 0 v113 0 (0 : Int64) S180 Φ) else (rec 3 ((c + k116) + k182) ((s + n117) + n183) l1A l2I l3I v106 x112 0 v113 0 (-4000000000000000000 : Int64) S180 Φ)) else if ((v106 / (10 : Int32)) - (v106 / (10 : Int32)) / (8 : Int32) * (8 : Int32)) = 5 then (∃ k189 n190 : Nat, (c + k116) + k189 ≤ k ∧ (s + n117) + n190 ≤ n ∧ rL_stand G F k189 n190 l1A x112 S114 fun v186 S187 => if 0 ≤ (lg_cmp v186 (-2000000000000000000 : Int64)) then (rec 3 ((c + k116) + k189) ((s + n117) + n190) l1A l2I l3I v106 x112 0 v113 0 (0 : Int64) S187 Φ) else (rec 3 ((c + k116) + k189) ((s + n117) + n190) l1A l2I l3I v106 x112 0 v113 0 (-4000000000000000000 : Int64) S187 Φ)) else if ((v106 / (10 : Int32)) - (v106 / (10 : Int32)) / (8 : Int32) * (8 : Int32)) = 6 then (∃ k196 n197 : Nat, (c + k116) + k196 ≤ k ∧ (s + n117) + n197 ≤ n ∧ rL_borrow G F k196 n197 l1A x112 S114 fun v193 S194 => if (lg_cmp v193 (0 : Int64)) < 0 then (rec 3 ((c + k116) + k196) ((s + n117) + n197) l1A l2I l3I v106 x112 0 v113 0 (-4000000000000000000 : Int64) S194 Φ) else (∃ k202 n203 : Nat, ((c + k116) + k196) + k202 ≤ k ∧ ((s + n117) + n197) + n203 ≤ n ∧ rL_answer G F k202 n203 l1A x112 S194 fun v199 S200 => if (lg_cmp v199 (110 : Int64)) = 0 then (∃ k214 n215 : Nat, (((c + k116) + k196) + k202) + k214 ≤ k ∧ (((s + n117) + n197) + n203) + n215 ≤ n ∧ rL_claim G F k214 n215 l1A (0 : Int32) x112 (1 : Int32) S200 fun v211 S212 => if 0 ≤ (lg_cmp v211 (1 : Int64)) then (rec 3 ((((c + k116) + k196) + k202) + k214) ((((s + n117) + n197) + n203) + n215) l1A l2I l3I v106 x112 0 v113 0 (-4000000000000000000 : Int64) S212 Φ) else (Φ (0 : Int32) S212)) else (∃ k208 n209 : Nat, (((c + k116) + k196) + k202) + k208 ≤ k ∧ (((s + n117) + n197) + n203) + n209 ≤ n ∧ rL_claim G F k208 n209 l1A (0 : Int32) x112 (0 : Int32) S200 fun v205 S206 => if 0 ≤ (lg_cmp v205 (1 : Int64)) then (rec 3 ((((c + k116) + k196) + k202) + k208) ((((s + n117) + n197) + n203) + n209) l1A l2I l3I v106 x112 0 v113 0 (-4000000000000000000 : Int64) S206 Φ) else (Φ (0 : Int32) S206)))) else (∃ k220 n221 : Nat, (c + k116) + k220 ≤ k ∧ (s + n117) + n221 ≤ n ∧ rL_borrow G F k220 n221 l1A x112 S114 fun v217 S218 => if (lg_cmp v217 (0 : Int64)) < 0 then (rec 3 ((c + k116) + k220) ((s + n117) + n221) l1A l2I l3I v106 x112 0 v113 0 (-4000000000000000000 : Int64) S218 Φ) else (∃ k226 n227 : Nat, ((c + k116) + k220) + k226 ≤ k ∧ ((s + n117) + n221) + n227 ≤ n ∧ rL_answer G F k226 n227 l1A x112 S218 fun v223 S224 => if (lg_cmp v223 (121 : Int64)) = 0 then (∃ k238 n239 : Nat, (((c + k116) + k220) + k226) + k238 ≤ k ∧ (((s + n117) + n221) + n227) + n239 ≤ n ∧ rL_claim G F k238 n239 l1A (0 : Int32) x112 (1 : Int32) S224 fun v235 S236 => if (lg_cmp v235 (0 : Int64)) ≤ 0 then (rec 3 ((((c + k116) + k220) + k226) + k238) ((((s + n117) + n221) + n227) + n239) l1A l2I l3I v106 x112 0 v113 0 (-4000000000000000000 : Int64) S236 Φ) else (Φ (0 : Int32) S236)) else (∃ k232 n233 : Nat, (((c + k116) + k220) + k226) + k232 ≤ k ∧ (((s + n117) + n221) + n227) + n233 ≤ n ∧ rL_claim G F k232 n233 l1A (0 : Int32) x112 (0 : Int32) S224 fun v229 S230 => if (lg_cmp v229 (0 : Int64)) ≤ 0 then (rec 3 ((((c + k116) + k220) + k226) + k232) ((((s + n117) + n221) + n227) + n233) l1A l2I l3I v106 x112 0 v113 0 (-4000000000000000000 : Int64) S230 Φ) else (Φ (0 : Int32) S230)))))
def rL_law_b3 (G : wkG) (F : Nat) (k n : Nat) (rec : Nat → Nat → Nat → Nat → Int32 → Int32 → Int32 → Int32 → Int32 → Int64 → Int32 → Int64 → wPS → (Int32 → wPS → Prop) → Prop) (c s : Nat) (l1A : Nat) (l2I : Int32) (l3I : Int32) (l4I : Int32) (l5I : Int32) (l6J : Int64) (l8J : Int64) (S : wPS) (Φ : (Int32 → wPS → Prop)) : Prop :=
  if ((l4I / (40000 : Int32)) - (l4I / (40000 : Int32)) / (3 : Int32) * (3 : Int32)) = 0 then (if (lg_cmp l8J (0 : Int64)) < 0 then (∃ k253 n254 : Nat, c + k253 ≤ k ∧ s + n254 ≤ n ∧ rL_isOne G F k253 n254 l1A l5I ((900 : Int32) + ((11 : Int32) * l3I)) S fun v250 S251 => if v250 = 0 then (Φ (0 : Int32) S251) else (wkLt (l3I + (1 : Int32)) fun x256 => rec 2 (c + k253) (s + n254) l1A l2I x256 0 0 0 0 0 0 S251 Φ)) else (∃ k260 n261 : Nat, c + k260 ≤ k ∧ s + n261 ≤ n ∧ rL_undo G F k260 n261 l1A S fun v257 S258 => if (lg_cmp v257 (0 : Int64)) < 0 then (Φ (0 : Int32) S258) else (∃ k266 n267 : Nat, (c + k260) + k266 ≤ k ∧ (s + n261) + n267 ≤ n ∧ rL_checksum G F k266 n267 l1A S258 fun v263 S264 => if (lg_cmp v263 l6J) = 0 then (∃ k272 n273 : Nat, ((c + k260) + k266) + k272 ≤ k ∧ ((s + n261) + n267) + n273 ≤ n ∧ rL_isOne G F k272 n273 l1A l5I ((900 : Int32) + ((11 : Int32) * l3I)) S264 fun v269 S270 => if v269 = 0 then (Φ (0 : Int32) S270) else (wkLt (l3I + (1 : Int32)) fun x275 => rec 2 (((c + k260) + k266) + k272) (((s + n261) + n267) + n273) l1A l2I x275 0 0 0 0 0 0 S270 Φ)) else (Φ (0 : Int32) S264)))) else (∃ k245 n246 : Nat, c + k245 ≤ k ∧ s + n246 ≤ n ∧ rL_isOne G F k245 n246 l1A l5I ((900 : Int32) + ((11 : Int32) * l3I)) S fun v242 S243 => if v242 = 0 then (Φ (0 : Int32) S243) else (wkLt (l3I + (1 : Int32)) fun x248 => rec 2 (c + k245) (s + n246) l1A l2I x248 0 0 0 0 0 0 S243 Φ))
def rL_law_b4 (G : wkG) (F : Nat) (k n : Nat) (rec : Nat → Nat → Nat → Nat → Int32 → Int32 → Int32 → Int32 → Int32 → Int64 → Int32 → Int64 → wPS → (Int32 → wPS → Prop) → Prop) (c s : Nat) (l1A : Nat) (l2I : Int32) (l3I : Int32) (S : wPS) (Φ : (Int32 → wPS → Prop)) : Prop :=
  if l2I ≤ l3I then (∃ k280 n281 : Nat, c + k280 ≤ k ∧ s + n281 ≤ n ∧ rL_areOne G F k280 n281 l1A (1100 : Int32) S fun v277 S278 => if v277 = 0 then (Φ (0 : Int32) S278) else (∃ k286 n287 : Nat, (c + k280) + k286 ≤ k ∧ (s + n281) + n287 ≤ n ∧ rL_isAnew G F k286 n287 l1A S278 fun v283 S284 => if v283 = 0 then (Φ (0 : Int32) S284) else (∃ k292 n293 : Nat, ((c + k280) + k286) + k292 ≤ k ∧ ((s + n281) + n287) + n293 ≤ n ∧ rL_isSound G F k292 n293 l1A S284 fun v289 S290 => if (lg_cmp v289 (1 : Int64)) = 0 then (Φ (1 : Int32) S290) else (Φ (0 : Int32) S290)))) else (∃ k298 n299 : Nat, c + k298 ≤ k ∧ s + n299 ≤ n ∧ rL_kindOf G F k298 n299 l1A l3I S fun v295 S296 => if (lg_cmp v295 (102 : Int64)) = 0 then (∃ k317 n318 : Nat, (c + k298) + k317 ≤ k ∧ (s + n299) + n318 ≤ n ∧ rL_isCarried G F k317 n318 l1A l3I (108 : Int32) S296 fun v314 S315 => if v314 = 0 then (Φ (0 : Int32) S315) else (∃ k323 n324 : Nat, ((c + k298) + k317) + k323 ≤ k ∧ ((s + n299) + n318) + n324 ≤ n ∧ rL_isCarried G F k323 n324 l1A l3I (115 : Int32) S315 fun v320 S321 => if v320 = 0 then (Φ (0 : Int32) S321) else (wkLt (l3I + (1 : Int32)) fun x326 => rec 4 (((c + k298) + k317) + k323) (((s + n299) + n318) + n324) l1A l2I x326 0 0 0 0 0 0 S321 Φ))) else (∃ k304 n305 : Nat, (c + k298) + k304 ≤ k ∧ (s + n299) + n305 ≤ n ∧ rL_isCarried G F k304 n305 l1A l3I (102 : Int32) S296 fun v301 S302 => if v301 = 0 then (Φ (0 : Int32) S302) else (∃ k310 n311 : Nat, ((c + k298) + k304) + k310 ≤ k ∧ ((s + n299) + n305) + n311 ≤ n ∧ rL_isCarried G F k310 n311 l1A l3I (115 : Int32) S302 fun v307 S308 => if v307 = 0 then (Φ (0 : Int32) S308) else (wkLt (l3I + (1 : Int32)) fun x313 => rec 4 (((c + k298) + k304) + k310) (((s + n299) + n305) + n311) l1A l2I x313 0 0 0 0 0 0 S308 Φ))))
def rL_law_go (G : wkG) (F : Nat) (k n : Nat) : Nat → Nat → Nat → Nat → Nat → Int32 → Int32 → Int32 → Int32 → Int32 → Int64 → Int32 → Int64 → wPS → (Int32 → wPS → Prop) → Prop
  | 0, _, _, _, _, _, _, _, _, _, _, _, _, _, _ => False
  | k' + 1, lab, c, s, l1A, l2I, l3I, l4I, l5I, l6I, l6J, l7I, l8J, S, Φ => if lab = 0 then rL_law_b0 G F k n (rL_law_go G F k n k') c s l1A l2I l3I S Φ else if lab = 1 then rL_law_b1 G F k n (rL_law_go G F k n k') c s l1A l2I l3I l6I l7I S Φ else if lab = 2 then rL_law_b2 G F k n (rL_law_go G F k n k') c s l1A l2I l3I S Φ else if lab = 3 then rL_law_b3 G F k n (rL_law_go G F k n k') c s l1A l2I l3I l4I l5I l6J l8J S Φ else if lab = 4 then rL_law_b4 G F k n (rL_law_go G F k n k') c s l1A l2I l3I S Φ else False
def rL_law_s (G : wkG) (F : Nat) (k n : Nat) (rec : Nat → Nat → Nat → Nat → Int32 → Int32 → Int32 → Int32 → Int32 → Int64 → Int32 → Int64 → wPS → (Int32 → wPS → Prop) → Prop)  (S : wPS) (Φ : (Int32 → wPS → Prop)) : Prop :=
  0 + 1 ≤ k ∧ 0 + 19 ≤ n ∧ ∀ q328 : Nat, ¬ q328 ∈ S.L → wkLt (wnO S q328 11) fun S329 => ∃ k332 n333 : Nat, (0 + 1) + k332 ≤ k ∧ (0 + 19) + n333 ≤ n ∧ rX11_init F k332 n333 q328 S329 fun v330 S331 => wkWF S331 ∧ rL_drawn G F (0 : Int32) (4 : Int32) S331 fun v334 S335 => wkLt (((2 : Int32) + v334)) fun x339 => rec 0 ((0 + 1) + k332) ((0 + 19) + n333) q328 x339 (0 : Int32) 0 0 0 0 0 0 S335 Φ
def rL_law (G : wkG) (F : Nat) (k n : Nat)  (S : wPS) (Φ : (Int32 → wPS → Prop)) : Prop := rL_law_s G F k n (rL_law_go G F k n F)  S Φ
set_option maxHeartbeats 4000000 in
set_option maxRecDepth 100000 in
theorem tL_law_go {k n : Nat} {l : Launch} {X : wkX} {d F : Nat} {S0 : wPS} {Φ : (Int32 → wPS → Prop)} (hst : wkSta (wkXg X)) (hstr : wkStr (wkXg X)) (hstrL : wkStrL (wkXg X)) (hcs : wkCast (wkXg X)) (harg : wkArg (wkXg X)) (hex : wkExA (wkXg X)) (hlt : l.stackTraces = false) (hmk : wkMk (wkXg X)) (C : wkC X cL_law RL 10 wvL_law) (hR : wkRm X d k n) (hd : 60 ≤ d) (E : wkEnd l X cL_law 10 (some .boolean) k n (fun v' S'' => ∃ v : Int32, v' = some (.int v) ∧ Φ v S'' ∧ wkWF S'' ∧ wkExt S0 S'')) : ∀ k' : Nat, (∀ (c s : Nat), c ≤ k → s ≤ n → ∀ (l0A : Nat) (l1A : Nat) (l2I : Int32) (l3I : Int32) (S : wPS), wkWF S → wkExt S0 S → l0A = (wkXg X).1 8 → wkIs S l1A 11 → rL_law_go (wkXg X) F k n k' 0 c s l1A l2I l3I 0 0 0 0 0 0 S Φ → wkGo l X 10 c s 19 S [some (.ref l0A), some (.ref l1A), some (.int l2I), some (.int l3I), none, none, none, none, none, none] []) ∧ (∀ (c s : Nat), c ≤ k → s ≤ n → ∀ (l0A : Nat) (l1A : Nat) (l2I : Int32) (l3I : Int32) (l6I : Int32) (l7I : Int32) (S : wPS), wkWF S → wkExt S0 S → l0A = (wkXg X).1 8 → wkIs S l1A 11 → rL_law_go (wkXg X) F k n k' 1 c s l1A l2I l3I 0 0 l6I 0 l7I 0 S Φ → wkGo l X 10 c s 115 S [some (.ref l0A), some (.ref l1A), some (.int l2I), some (.int l3I), none, none, some (.int l6I), some (.int l7I), none, none] []) ∧ (∀ (c s : Nat), c ≤ k → s ≤ n → ∀ (l0A : Nat) (l1A : Nat) (l2I : Int32) (l3I : Int32) (S : wPS), wkWF S → wkExt S0 S → l0A = (wkXg X).1 8 → wkIs S l1A 11 → rL_law_go (wkXg X) F k n k' 2 c s l1A l2I l3I 0 0 0 0 0 0 S Φ → wkGo l X 10 c s 205 S [some (.ref l0A), some (.ref l1A), some (.int l2I), some (.int l3I), none, none, none, none, none, none] []) ∧ (∀ (c s : Nat), c ≤ k → s ≤ n → ∀ (l0A : Nat) (l1A : Nat) (l2I : Int32) (l3I : Int32) (l4I : Int32) (l5I : Int32) (l6J : Int64) (l8J : Int64) (S : wPS), wkWF S → wkExt S0 S → l0A = (wkXg X).1 8 → wkIs S l1A 11 → rL_law_go (wkXg X) F k n k' 3 c s l1A l2I l3I l4I l5I 0 l6J 0 l8J S Φ → wkGo l X 10 c s 597 S [some (.ref l0A), some (.ref l1A), some (.int l2I), some (.int l3I), some (.int l4I), some (.int l5I), some (.long l6J), none, some (.long l8J), none] []) ∧ (∀ (c s : Nat), c ≤ k → s ≤ n → ∀ (l0A : Nat) (l1A : Nat) (l2I : Int32) (l3I : Int32) (S : wPS), wkWF S → wkExt S0 S → l0A = (wkXg X).1 8 → wkIs S l1A 11 → rL_law_go (wkXg X) F k n k' 4 c s l1A l2I l3I 0 0 0 0 0 0 S Φ → wkGo l X 10 c s 700 S [some (.ref l0A), some (.ref l1A), some (.int l2I), some (.int l3I), none, none, none, none, none, none] []) := by
  intro k'
  induction k' with
  | zero => exact ⟨fun c s hc hs l0A l1A l2I l3I S hW hE hl0A hl1A h => h.elim, fun c s hc hs l0A l1A l2I l3I l6I l7I S hW hE hl0A hl1A h => h.elim, fun c s hc hs l0A l1A l2I l3I S hW hE hl0A hl1A h => h.elim, fun c s hc hs l0A l1A l2I l3I l4I l5I l6J l8J S hW hE hl0A hl1A h => h.elim, fun c s hc hs l0A l1A l2I l3I S hW hE hl0A hl1A h => h.elim⟩
  | succ k' ih =>
    refine ⟨?_, ?_, ?_, ?_, ?_⟩
    · intro c s hc hs l0A l1A l2I l3I S hW hE hl0A hl1A h
      have h : rL_law_b0 (wkXg X) F k n (rL_law_go (wkXg X) F k n k') c s l1A l2I l3I S Φ := by
        rw [rL_law_go, if_pos (rfl : (0 : Nat) = 0)] at h
        exact h
      unfold rL_law_b0 at h
      refine wk_iload_n C dL_law_19 rfl rfl ?_
      refine wk_iload_n C dL_law_20 rfl rfl ?_
      refine wk_icmp_ge C (tgt := 176) dL_law_21 (by decide) (fun c1 => ?_) (fun c1 => ?_)
      · rw [if_pos c1] at h
        refine wk_aload_n C dL_law_176 rfl rfl ?_
        obtain ⟨k5, n6, hk5, hn6, h⟩ := h
        refine wk_callT C hR (As := [.ref l1A]) (cnt := 1) (tL_person (l := l) hcs hex hlt hW hl1A h) rfl (wkGoodW (List.mem_of_getElem? (i := 1) rfl) (List.mem_of_getElem? (i := 2) rfl) (List.mem_of_getElem? (i := 3) rfl) hbL_law_L_person gdL_person) (Nat.le_trans (by decide : 7 + 1 ≤ 60) hd) (by decide) ⟨by decide, by decide, by decide +kernel⟩ rfl rfl (Nat.le_of_ble_eq_true rfl) hk5 hn6 dL_law_177 (fun v' S3 hp => ?_)
        obtain ⟨v2, rfl, h, hWS3, hXS3⟩ := hp
        refine wk_lconst C (v := 0) dL_law_180 (by decide) ?_
        refine wk_lcmp C dL_law_181 rfl ?_
        refine wk_if_ne C (tgt := 196) dL_law_182 (by decide) (fun c7 => ?_) (fun c7 => ?_)
        · rw [if_neg c7] at h
          refine wk_iconst C (v := 0) dL_law_196 (by decide) ?_
          exact E _ _ _ _ _ _ hk5 hn6 dL_law_197 rfl ⟨(0 : Int32), rfl, h, hWS3, (wkExt.tr hE hXS3)⟩
        · rw [if_pos c7] at h
          refine wk_aload_n C dL_law_185 rfl rfl ?_
          refine wk_aload_n C dL_law_186 rfl rfl ?_
          refine wk_sipush C (v := 700) dL_law_187 (by decide) ?_
          obtain ⟨k11, n12, hk11, hn12, h⟩ := h
          refine wk_callW C hR (As := [.ref l1A, .ref l0A, .int (700 : Int32)]) (cnt := 3) (tL_areOne (l := l) hst hcs harg hex hlt hWS3 (hXS3 _ _ hl1A) hl0A h) rfl (wkGoodW (List.mem_of_getElem? (i := 4) rfl) (List.mem_of_getElem? (i := 5) rfl) (List.mem_of_getElem? (i := 3) rfl) hbL_law_L_areOne gdL_areOne) (Nat.le_trans (by decide : 59 + 1 ≤ 60) hd) (by decide) ⟨by decide, by decide, by decide +kernel⟩ rfl rfl (Nat.le_of_ble_eq_true rfl) hk11 hn12 dL_law_190 (fun v' S9 hp => ?_)
          obtain ⟨v8, rfl, h, hWS9, hXS9⟩ := hp
          refine wk_if_ne C (tgt := 198) dL_law_193 (by decide) (fun c13 => ?_) (fun c13 => ?_)
          · rw [if_neg c13] at h
            refine wk_aload_n C dL_law_198 rfl rfl ?_
            obtain ⟨k17, n18, hk17, hn18, h⟩ := h
            refine wk_callW C hR (As := [.ref l1A]) (cnt := 1) (tL_settle (l := l) hst hex hlt hWS9 (hXS9 _ _ (hXS3 _ _ hl1A)) h) rfl (wkGoodW (List.mem_of_getElem? (i := 6) rfl) (List.mem_of_getElem? (i := 7) rfl) (List.mem_of_getElem? (i := 3) rfl) hbL_law_L_settle gdL_settle) (Nat.le_trans (by decide : 57 + 1 ≤ 60) hd) (by decide) ⟨by decide, by decide, by decide +kernel⟩ rfl rfl (Nat.le_of_ble_eq_true rfl) hk17 hn18 dL_law_199 (fun v' S15 hp => ?_)
            obtain ⟨v14, rfl, h, hWS15, hXS15⟩ := hp
            refine wk_pop2L C dL_law_202 rfl ?_
            refine wk_iconst C (v := 0) dL_law_203 (by decide) ?_
            refine wk_istore_n C (lv' := [some (.ref l0A), some (.ref l1A), some (.int l2I), some (.int (0 : Int32)), none, none, none, none, none, none]) dL_law_204 rfl (by decide) rfl ?_
            exact wk_forget (lv' := [some (.ref l0A), some (.ref l1A), some (.int l2I), some (.int (0 : Int32)), none, none, none, none, none, none]) (wkLs.le ⟨rfl, rfl, rfl, rfl, trivial⟩) (ih.2.2.1 _ _ hk17 hn18 _ _ _ _ _ hWS15 (wkExt.tr (wkExt.tr (wkExt.tr hE hXS3) hXS9) hXS15) hl0A (hXS15 _ _ (hXS9 _ _ (hXS3 _ _ hl1A))) h)
          · rw [if_pos c13] at h
            refine wk_iconst C (v := 0) dL_law_196 (by decide) ?_
            exact E _ _ _ _ _ _ hk11 hn12 dL_law_197 rfl ⟨(0 : Int32), rfl, h, hWS9, (wkExt.tr (wkExt.tr hE hXS3) hXS9)⟩
      · rw [if_neg c1] at h
        refine wk_ldcL C hstrL rfl dL_law_24 ?_
        refine wk_aload_n C dL_law_26 rfl rfl ?_
        refine wk_iconst C (v := 1) dL_law_27 (by decide) ?_
        refine wk_iload_n C dL_law_28 rfl rfl ?_
        refine wk_iadd C dL_law_29 rfl ?_
        refine wk_bipush C (v := 12) dL_law_30 (by decide) ?_
        refine wk_callW C hR (As := [.ref l0A, .int ((1 : Int32) + l3I), .int (12 : Int32)]) (cnt := 3) (tL_drawn (l := l) harg hW hl0A h) rfl (wkGoodW (List.mem_of_getElem? (i := 8) rfl) (List.mem_of_getElem? (i := 9) rfl) (List.mem_of_getElem? (i := 3) rfl) hbL_law_L_drawn gdL_drawn) (Nat.le_trans (by decide : 1 + 1 ≤ 60) hd) (by decide) ⟨by decide, by decide, by decide +kernel⟩ rfl rfl (Nat.le_of_ble_eq_true rfl) hc hs dL_law_32 (fun v' S20 hp => ?_)
        obtain ⟨v19, rfl, h, hWS20, hXS20⟩ := hp
        refine wk_callVS C hstr hR (As := [.int v19]) (cnt := 1) (tJ0_charAt_5068e (l := l) hstr hWS20 rfl h) rfl (wkGoodV (List.mem_of_getElem? (i := 10) rfl) (List.mem_of_getElem? (i := 11) rfl) (List.mem_of_getElem? (i := 12) rfl) (List.mem_of_getElem? (i := 13) rfl) hbL_law_J0_charAt_5068e gdJ0_charAt_5068e) (Nat.le_trans (by decide : 3 + 1 ≤ 60) hd) (by decide) rfl rfl ⟨by decide, by decide, by decide +kernel⟩ rfl rfl (Nat.le_of_ble_eq_true rfl) hc hs dL_law_35 (fun v' S25 hp => ?_)
        obtain ⟨v24, rfl, h, hWS25, hXS25⟩ := hp
        refine wk_istore C (lv' := [some (.ref l0A), some (.ref l1A), some (.int l2I), some (.int l3I), some (.int v24), none, none, none, none, none]) dL_law_38 (by decide) rfl ?_
        refine wk_iload C dL_law_40 rfl ?_
        refine wk_iconst C (v := 0) dL_law_42 (by decide) ?_
        obtain ⟨k32, n33, hk32, hn33, h⟩ := h
        refine wk_callW C hR (As := [.int v24, .int (0 : Int32)]) (cnt := 2) (tL_limit (l := l) hWS25  h) rfl (wkGoodW (List.mem_of_getElem? (i := 14) rfl) (List.mem_of_getElem? (i := 15) rfl) (List.mem_of_getElem? (i := 3) rfl) hbL_law_L_limit gdL_limit) (Nat.le_trans (by decide : 1 + 1 ≤ 60) hd) (by decide) ⟨by decide, by decide, by decide +kernel⟩ rfl rfl (Nat.le_of_ble_eq_true rfl) hk32 hn33 dL_law_43 (fun v' S30 hp => ?_)
        obtain ⟨v29, rfl, h, hWS30, hXS30⟩ := hp
        refine wk_aload_n C dL_law_46 rfl rfl ?_
        refine wk_bipush C (v := 10) dL_law_47 (by decide) ?_
        refine wk_iload_n C dL_law_49 rfl rfl ?_
        refine wk_iadd C dL_law_50 rfl ?_
        refine wk_iload C dL_law_51 rfl ?_
        refine wk_iconst C (v := 1) dL_law_53 (by decide) ?_
        obtain ⟨k37, n38, hk37, hn38, h⟩ := h
        refine wk_callW C hR (As := [.int v24, .int (1 : Int32)]) (cnt := 2) (tL_limit (l := l) hWS30  h) rfl (wkGoodW (List.mem_of_getElem? (i := 14) rfl) (List.mem_of_getElem? (i := 15) rfl) (List.mem_of_getElem? (i := 3) rfl) hbL_law_L_limit gdL_limit) (Nat.le_trans (by decide : 1 + 1 ≤ 60) hd) (by decide) ⟨by decide, by decide, by decide +kernel⟩ rfl rfl (Nat.le_of_ble_eq_true rfl) hk37 hn38 dL_law_54 (fun v' S35 hp => ?_)
        obtain ⟨v34, rfl, h, hWS35, hXS35⟩ := hp
        refine wk_callW C hR (As := [.ref l0A, .int ((10 : Int32) + l3I), .int v34]) (cnt := 3) (tL_drawn (l := l) harg hWS35 hl0A h) rfl (wkGoodW (List.mem_of_getElem? (i := 8) rfl) (List.mem_of_getElem? (i := 9) rfl) (List.mem_of_getElem? (i := 3) rfl) hbL_law_L_drawn gdL_drawn) (Nat.le_trans (by decide : 1 + 1 ≤ 60) hd) (by decide) ⟨by decide, by decide, by decide +kernel⟩ rfl rfl (Nat.le_of_ble_eq_true rfl) hk37 hn38 dL_law_57 (fun v' S40 hp => ?_)
        obtain ⟨v39, rfl, h, hWS40, hXS40⟩ := hp
        refine wk_iadd C dL_law_60 rfl ?_
        obtain ⟨x44, ex44, h⟩ := wkLt_some h
        refine wk_topi ex44 ?_
        refine wk_istore C (lv' := [some (.ref l0A), some (.ref l1A), some (.int l2I), some (.int l3I), some (.int v24), some (.int x44), none, none, none, none]) dL_law_61 (by decide) rfl ?_
        refine wk_aload_n C dL_law_63 rfl rfl ?_
        refine wk_iload C dL_law_64 rfl ?_
        refine wk_iload C dL_law_66 rfl ?_
        refine wk_iload C dL_law_68 rfl ?_
        refine wk_iconst C (v := 2) dL_law_70 (by decide) ?_
        obtain ⟨k48, n49, hk48, hn49, h⟩ := h
        refine wk_callW C hR (As := [.int v24, .int (2 : Int32)]) (cnt := 2) (tL_limit (l := l) hWS40  h) rfl (wkGoodW (List.mem_of_getElem? (i := 14) rfl) (List.mem_of_getElem? (i := 15) rfl) (List.mem_of_getElem? (i := 3) rfl) hbL_law_L_limit gdL_limit) (Nat.le_trans (by decide : 1 + 1 ≤ 60) hd) (by decide) ⟨by decide, by decide, by decide +kernel⟩ rfl rfl (Nat.le_of_ble_eq_true rfl) hk48 hn49 dL_law_71 (fun v' S46 hp => ?_)
        obtain ⟨v45, rfl, h, hWS46, hXS46⟩ := hp
        refine wk_aload_n C dL_law_74 rfl rfl ?_
        refine wk_bipush C (v := 20) dL_law_75 (by decide) ?_
        refine wk_iload_n C dL_law_77 rfl rfl ?_
        refine wk_iadd C dL_law_78 rfl ?_
        refine wk_iload C dL_law_79 rfl ?_
        refine wk_iconst C (v := 3) dL_law_81 (by decide) ?_
        obtain ⟨k53, n54, hk53, hn54, h⟩ := h
        refine wk_callW C hR (As := [.int v24, .int (3 : Int32)]) (cnt := 2) (tL_limit (l := l) hWS46  h) rfl (wkGoodW (List.mem_of_getElem? (i := 14) rfl) (List.mem_of_getElem? (i := 15) rfl) (List.mem_of_getElem? (i := 3) rfl) hbL_law_L_limit gdL_limit) (Nat.le_trans (by decide : 1 + 1 ≤ 60) hd) (by decide) ⟨by decide, by decide, by decide +kernel⟩ rfl rfl (Nat.le_of_ble_eq_true rfl) hk53 hn54 dL_law_82 (fun v' S51 hp => ?_)
        obtain ⟨v50, rfl, h, hWS51, hXS51⟩ := hp
        refine wk_callW C hR (As := [.ref l0A, .int ((20 : Int32) + l3I), .int v50]) (cnt := 3) (tL_drawn (l := l) harg hWS51 hl0A h) rfl (wkGoodW (List.mem_of_getElem? (i := 8) rfl) (List.mem_of_getElem? (i := 9) rfl) (List.mem_of_getElem? (i := 3) rfl) hbL_law_L_drawn gdL_drawn) (Nat.le_trans (by decide : 1 + 1 ≤ 60) hd) (by decide) ⟨by decide, by decide, by decide +kernel⟩ rfl rfl (Nat.le_of_ble_eq_true rfl) hk53 hn54 dL_law_85 (fun v' S56 hp => ?_)
        obtain ⟨v55, rfl, h, hWS56, hXS56⟩ := hp
        refine wk_iadd C dL_law_88 rfl ?_
        obtain ⟨k63, n64, hk63, hn64, h⟩ := h
        refine wk_callT C hR (As := [.ref l1A, .int v24, .int x44, .int (v45 + v55)]) (cnt := 4) (tL_open (l := l) hst hstr hcs hex hlt hWS56 (hXS56 _ _ (hXS51 _ _ (hXS46 _ _ (hXS40 _ _ (hXS35 _ _ (hXS30 _ _ (hXS25 _ _ (hXS20 _ _ hl1A)))))))) h) rfl (wkGoodW (List.mem_of_getElem? (i := 16) rfl) (List.mem_of_getElem? (i := 17) rfl) (List.mem_of_getElem? (i := 3) rfl) hbL_law_L_open gdL_open) (Nat.le_trans (by decide : 7 + 1 ≤ 60) hd) (by decide) ⟨by decide, by decide, by decide +kernel⟩ rfl rfl (Nat.le_of_ble_eq_true rfl) hk63 hn64 dL_law_89 (fun v' S61 hp => ?_)
        obtain ⟨v60, rfl, h, hWS61, hXS61⟩ := hp
        refine wk_iload_n C dL_law_92 rfl rfl ?_
        refine wk_i2l C dL_law_93 rfl ?_
        refine wk_lcmp C dL_law_94 rfl ?_
        refine wk_if_eq C (tgt := 100) dL_law_95 (by decide) (fun c65 => ?_) (fun c65 => ?_)
        · rw [if_pos c65] at h
          refine wk_aload_n C dL_law_100 rfl rfl ?_
          refine wk_bipush C (v := 30) dL_law_101 (by decide) ?_
          refine wk_iload_n C dL_law_103 rfl rfl ?_
          refine wk_iadd C dL_law_104 rfl ?_
          refine wk_bipush C (v := 13) dL_law_105 (by decide) ?_
          refine wk_callW C hR (As := [.ref l0A, .int ((30 : Int32) + l3I), .int (13 : Int32)]) (cnt := 3) (tL_drawn (l := l) harg hWS61 hl0A h) rfl (wkGoodW (List.mem_of_getElem? (i := 8) rfl) (List.mem_of_getElem? (i := 9) rfl) (List.mem_of_getElem? (i := 3) rfl) hbL_law_L_drawn gdL_drawn) (Nat.le_trans (by decide : 1 + 1 ≤ 60) hd) (by decide) ⟨by decide, by decide, by decide +kernel⟩ rfl rfl (Nat.le_of_ble_eq_true rfl) hk63 hn64 dL_law_107 (fun v' S67 hp => ?_)
          obtain ⟨v66, rfl, h, hWS67, hXS67⟩ := hp
          refine wk_istore C (lv' := [some (.ref l0A), some (.ref l1A), some (.int l2I), some (.int l3I), some (.int v24), some (.int x44), some (.int v66), none, none, none]) dL_law_110 (by decide) rfl ?_
          refine wk_iconst C (v := 0) dL_law_112 (by decide) ?_
          refine wk_istore C (lv' := [some (.ref l0A), some (.ref l1A), some (.int l2I), some (.int l3I), some (.int v24), some (.int x44), some (.int v66), some (.int (0 : Int32)), none, none]) dL_law_113 (by decide) rfl ?_
          exact wk_forget (lv' := [some (.ref l0A), some (.ref l1A), some (.int l2I), some (.int l3I), none, none, some (.int v66), some (.int (0 : Int32)), none, none]) (wkLs.le ⟨rfl, rfl, rfl, rfl, rfl, rfl, trivial⟩) (ih.2.1 _ _ hk63 hn64 _ _ _ _ _ _ _ hWS67 (wkExt.tr (wkExt.tr (wkExt.tr (wkExt.tr (wkExt.tr (wkExt.tr (wkExt.tr (wkExt.tr (wkExt.tr (wkExt.tr hE hXS20) hXS25) hXS30) hXS35) hXS40) hXS46) hXS51) hXS56) hXS61) hXS67) hl0A (hXS67 _ _ (hXS61 _ _ (hXS56 _ _ (hXS51 _ _ (hXS46 _ _ (hXS40 _ _ (hXS35 _ _ (hXS30 _ _ (hXS25 _ _ (hXS20 _ _ hl1A)))))))))) h)
        · rw [if_neg c65] at h
          refine wk_iconst C (v := 0) dL_law_98 (by decide) ?_
          exact E _ _ _ _ _ _ hk63 hn64 dL_law_99 rfl ⟨(0 : Int32), rfl, h, hWS61, (wkExt.tr (wkExt.tr (wkExt.tr (wkExt.tr (wkExt.tr (wkExt.tr (wkExt.tr (wkExt.tr (wkExt.tr hE hXS20) hXS25) hXS30) hXS35) hXS40) hXS46) hXS51) hXS56) hXS61)⟩
    · intro c s hc hs l0A l1A l2I l3I l6I l7I S hW hE hl0A hl1A h
      have h : rL_law_b1 (wkXg X) F k n (rL_law_go (wkXg X) F k n k') c s l1A l2I l3I l6I l7I S Φ := by
        rw [rL_law_go, if_neg (show ¬ (1 : Nat) = 0 by decide), if_pos (rfl : (1 : Nat) = 1)] at h
        exact h
      unfold rL_law_b1 at h
      refine wk_iload C dL_law_115 rfl ?_
      refine wk_iload C dL_law_117 rfl ?_
      refine wk_icmp_ge C (tgt := 170) dL_law_119 (by decide) (fun c71 => ?_) (fun c71 => ?_)
      · rw [if_pos c71] at h
        obtain ⟨x72, ex72, h⟩ := wkLt_some h
        refine wk_iinc C (lv' := [some (.ref l0A), some (.ref l1A), some (.int l2I), some (.int x72), none, none, some (.int l6I), some (.int l7I), none, none]) dL_law_170 rfl (by rw [ex72]; rfl) (by decide) rfl ?_
        refine wk_goto C (tgt := 19) dL_law_173 (by decide) ?_
        exact wk_forget (lv' := [some (.ref l0A), some (.ref l1A), some (.int l2I), some (.int x72), none, none, none, none, none, none]) (wkLs.le ⟨rfl, rfl, rfl, rfl, trivial⟩) (ih.1 _ _ hc hs _ _ _ _ _ hW hE hl0A hl1A h)
      · rw [if_neg c71] at h
        refine wk_aload_n C dL_law_122 rfl rfl ?_
        refine wk_iload_n C dL_law_123 rfl rfl ?_
        refine wk_iconst C (v := (-1)) dL_law_124 (by decide) ?_
        refine wk_aload_n C dL_law_125 rfl rfl ?_
        refine wk_bipush C (v := 40) dL_law_126 (by decide) ?_
        refine wk_bipush C (v := 100) dL_law_128 (by decide) ?_
        refine wk_iload_n C dL_law_130 rfl rfl ?_
        refine wk_imul C dL_law_131 rfl ?_
        refine wk_iadd C dL_law_132 rfl ?_
        refine wk_bipush C (v := 7) dL_law_133 (by decide) ?_
        refine wk_iload C dL_law_135 rfl ?_
        refine wk_imul C dL_law_137 rfl ?_
        refine wk_iadd C dL_law_138 rfl ?_
        obtain ⟨k76, n77, hk76, hn77, h⟩ := h
        refine wk_callW C hR (As := [.ref l1A, .int l3I, .int (-1 : Int32), .ref l0A, .int (((40 : Int32) + ((100 : Int32) * l3I)) + ((7 : Int32) * l7I))]) (cnt := 5) (tL_writes (l := l) hst hstr hcs harg hex hlt hW hl1A hl0A h) rfl (wkGoodW (List.mem_of_getElem? (i := 18) rfl) (List.mem_of_getElem? (i := 19) rfl) (List.mem_of_getElem? (i := 3) rfl) hbL_law_L_writes gdL_writes) (Nat.le_trans (by decide : 9 + 1 ≤ 60) hd) (by decide) ⟨by decide, by decide, by decide +kernel⟩ rfl rfl (Nat.le_of_ble_eq_true rfl) hk76 hn77 dL_law_139 (fun v' S74 hp => ?_)
        obtain ⟨v73, rfl, h, hWS74, hXS74⟩ := hp
        refine wk_lstore C (lv' := [some (.ref l0A), some (.ref l1A), some (.int l2I), some (.int l3I), none, none, some (.int l6I), some (.int l7I), some (.long v73), none]) dL_law_142 (by decide) rfl ?_
        refine wk_lload C dL_law_144 rfl ?_
        refine wk_ldc2 C (v := (-4000000000000000001)) (List.mem_of_getElem? (i := 20) rfl) dL_law_146 ?_
        refine wk_lcmp C dL_law_149 rfl ?_
        refine wk_if_eq C (tgt := 162) dL_law_150 (by decide) (fun c78 => ?_) (fun c78 => ?_)
        · rw [if_pos c78] at h
          refine wk_iconst C (v := 0) dL_law_162 (by decide) ?_
          exact E _ _ _ _ _ _ hk76 hn77 dL_law_163 rfl ⟨(0 : Int32), rfl, h, hWS74, (wkExt.tr hE hXS74)⟩
        · rw [if_neg c78] at h
          refine wk_lload C dL_law_153 rfl ?_
          refine wk_iload C dL_law_155 rfl ?_
          refine wk_i2l C dL_law_157 rfl ?_
          refine wk_lcmp C dL_law_158 rfl ?_
          refine wk_if_le C (tgt := 164) dL_law_159 (by decide) (fun c79 => ?_) (fun c79 => ?_)
          · rw [if_pos c79] at h
            obtain ⟨x80, ex80, h⟩ := wkLt_some h
            refine wk_iinc C (lv' := [some (.ref l0A), some (.ref l1A), some (.int l2I), some (.int l3I), none, none, some (.int l6I), some (.int x80), some (.long v73), none]) dL_law_164 rfl (by rw [ex80]; rfl) (by decide) rfl ?_
            refine wk_goto C (tgt := 115) dL_law_167 (by decide) ?_
            exact wk_forget (lv' := [some (.ref l0A), some (.ref l1A), some (.int l2I), some (.int l3I), none, none, some (.int l6I), some (.int x80), none, none]) (wkLs.le ⟨rfl, rfl, rfl, rfl, rfl, rfl, trivial⟩) (ih.2.1 _ _ hk76 hn77 _ _ _ _ _ _ _ hWS74 (wkExt.tr hE hXS74) hl0A (hXS74 _ _ hl1A) h)
          · rw [if_neg c79] at h
            refine wk_iconst C (v := 0) dL_law_162 (by decide) ?_
            exact E _ _ _ _ _ _ hk76 hn77 dL_law_163 rfl ⟨(0 : Int32), rfl, h, hWS74, (wkExt.tr hE hXS74)⟩
    · intro c s hc hs l0A l1A l2I l3I S hW hE hl0A hl1A h
      have h : rL_law_b2 (wkXg X) F k n (rL_law_go (wkXg X) F k n k') c s l1A l2I l3I S Φ := by
        rw [rL_law_go, if_neg (show ¬ (2 : Nat) = 0 by decide), if_neg (show ¬ (2 : Nat) = 1 by decide), if_pos (rfl : (2 : Nat) = 2)] at h
        exact h
      unfold rL_law_b2 at h
      refine wk_iload_n C dL_law_205 rfl rfl ?_
      refine wk_bipush C (v := 14) dL_law_206 (by decide) ?_
      refine wk_icmp_ge C (tgt := 662) dL_law_208 (by decide) (fun c81 => ?_) (fun c81 => ?_)
      · rw [if_pos c81] at h
        refine wk_aload_n C dL_law_662 rfl rfl ?_
        obtain ⟨k85, n86, hk85, hn86, h⟩ := h
        refine wk_callW C hR (As := [.ref l1A]) (cnt := 1) (tL_isAnew (l := l) hst hstr hcs hex hlt hmk hW hl1A h) rfl (wkGoodW (List.mem_of_getElem? (i := 21) rfl) (List.mem_of_getElem? (i := 22) rfl) (List.mem_of_getElem? (i := 3) rfl) hbL_law_L_isAnew gdL_isAnew) (Nat.le_trans (by decide : 58 + 1 ≤ 60) hd) (by decide) ⟨by decide, by decide, by decide +kernel⟩ rfl rfl (Nat.le_of_ble_eq_true rfl) hk85 hn86 dL_law_663 (fun v' S83 hp => ?_)
        obtain ⟨v82, rfl, h, hWS83, hXS83⟩ := hp
        refine wk_if_eq C (tgt := 696) dL_law_666 (by decide) (fun c87 => ?_) (fun c87 => ?_)
        · rw [if_pos c87] at h
          refine wk_iconst C (v := 0) dL_law_696 (by decide) ?_
          exact E _ _ _ _ _ _ hk85 hn86 dL_law_697 rfl ⟨(0 : Int32), rfl, h, hWS83, (wkExt.tr hE hXS83)⟩
        · rw [if_neg c87] at h
          refine wk_aload_n C dL_law_669 rfl rfl ?_
          obtain ⟨k91, n92, hk91, hn92, h⟩ := h
          refine wk_callW C hR (As := [.ref l1A]) (cnt := 1) (tL_settle (l := l) hst hex hlt hWS83 (hXS83 _ _ hl1A) h) rfl (wkGoodW (List.mem_of_getElem? (i := 6) rfl) (List.mem_of_getElem? (i := 7) rfl) (List.mem_of_getElem? (i := 3) rfl) hbL_law_L_settle gdL_settle) (Nat.le_trans (by decide : 57 + 1 ≤ 60) hd) (by decide) ⟨by decide, by decide, by decide +kernel⟩ rfl rfl (Nat.le_of_ble_eq_true rfl) hk91 hn92 dL_law_670 (fun v' S89 hp => ?_)
          obtain ⟨v88, rfl, h, hWS89, hXS89⟩ := hp
          refine wk_lconst C (v := 0) dL_law_673 (by decide) ?_
          refine wk_lcmp C dL_law_674 rfl ?_
          refine wk_if_lt C (tgt := 696) dL_law_675 (by decide) (fun c93 => ?_) (fun c93 => ?_)
          · rw [if_pos c93] at h
            refine wk_iconst C (v := 0) dL_law_696 (by decide) ?_
            exact E _ _ _ _ _ _ hk91 hn92 dL_law_697 rfl ⟨(0 : Int32), rfl, h, hWS89, (wkExt.tr (wkExt.tr hE hXS83) hXS89)⟩
          · rw [if_neg c93] at h
            refine wk_aload_n C dL_law_678 rfl rfl ?_
            obtain ⟨k97, n98, hk97, hn98, h⟩ := h
            refine wk_callW C hR (As := [.ref l1A]) (cnt := 1) (tL_settle (l := l) hst hex hlt hWS89 (hXS89 _ _ (hXS83 _ _ hl1A)) h) rfl (wkGoodW (List.mem_of_getElem? (i := 6) rfl) (List.mem_of_getElem? (i := 7) rfl) (List.mem_of_getElem? (i := 3) rfl) hbL_law_L_settle gdL_settle) (Nat.le_trans (by decide : 57 + 1 ≤ 60) hd) (by decide) ⟨by decide, by decide, by decide +kernel⟩ rfl rfl (Nat.le_of_ble_eq_true rfl) hk97 hn98 dL_law_679 (fun v' S95 hp => ?_)
            obtain ⟨v94, rfl, h, hWS95, hXS95⟩ := hp
            refine wk_lconst C (v := 0) dL_law_682 (by decide) ?_
            refine wk_lcmp C dL_law_683 rfl ?_
            refine wk_if_ne C (tgt := 696) dL_law_684 (by decide) (fun c99 => ?_) (fun c99 => ?_)
            · rw [if_neg c99] at h
              refine wk_iconst C (v := 0) dL_law_696 (by decide) ?_
              exact E _ _ _ _ _ _ hk97 hn98 dL_law_697 rfl ⟨(0 : Int32), rfl, h, hWS95, (wkExt.tr (wkExt.tr (wkExt.tr hE hXS83) hXS89) hXS95)⟩
            · rw [if_pos c99] at h
              refine wk_aload_n C dL_law_687 rfl rfl ?_
              obtain ⟨k103, n104, hk103, hn104, h⟩ := h
              refine wk_callW C hR (As := [.ref l1A]) (cnt := 1) (tL_isSound (l := l) hst hex hlt hWS95 (hXS95 _ _ (hXS89 _ _ (hXS83 _ _ hl1A))) h) rfl (wkGoodW (List.mem_of_getElem? (i := 23) rfl) (List.mem_of_getElem? (i := 24) rfl) (List.mem_of_getElem? (i := 3) rfl) hbL_law_L_isSound gdL_isSound) (Nat.le_trans (by decide : 57 + 1 ≤ 60) hd) (by decide) ⟨by decide, by decide, by decide +kernel⟩ rfl rfl (Nat.le_of_ble_eq_true rfl) hk103 hn104 dL_law_688 (fun v' S101 hp => ?_)
              obtain ⟨v100, rfl, h, hWS101, hXS101⟩ := hp
              refine wk_lconst C (v := 1) dL_law_691 (by decide) ?_
              refine wk_lcmp C dL_law_692 rfl ?_
              refine wk_if_eq C (tgt := 698) dL_law_693 (by decide) (fun c105 => ?_) (fun c105 => ?_)
              · rw [if_pos c105] at h
                refine wk_iconst C (v := 0) dL_law_698 (by decide) ?_
                refine wk_istore_n C (lv' := [some (.ref l0A), some (.ref l1A), some (.int l2I), some (.int (0 : Int32)), none, none, none, none, none, none]) dL_law_699 rfl (by decide) rfl ?_
                exact wk_forget (lv' := [some (.ref l0A), some (.ref l1A), some (.int l2I), some (.int (0 : Int32)), none, none, none, none, none, none]) (wkLs.le ⟨rfl, rfl, rfl, rfl, trivial⟩) (ih.2.2.2.2 _ _ hk103 hn104 _ _ _ _ _ hWS101 (wkExt.tr (wkExt.tr (wkExt.tr (wkExt.tr hE hXS83) hXS89) hXS95) hXS101) hl0A (hXS101 _ _ (hXS95 _ _ (hXS89 _ _ (hXS83 _ _ hl1A)))) h)
              · rw [if_neg c105] at h
                refine wk_iconst C (v := 0) dL_law_696 (by decide) ?_
                exact E _ _ _ _ _ _ hk103 hn104 dL_law_697 rfl ⟨(0 : Int32), rfl, h, hWS101, (wkExt.tr (wkExt.tr (wkExt.tr (wkExt.tr hE hXS83) hXS89) hXS95) hXS101)⟩
      · rw [if_neg c81] at h
        refine wk_aload_n C dL_law_211 rfl rfl ?_
        refine wk_bipush C (v := 60) dL_law_212 (by decide) ?_
        refine wk_iload_n C dL_law_214 rfl rfl ?_
        refine wk_iadd C dL_law_215 rfl ?_
        refine wk_ldc C (v := 1000000) (List.mem_of_getElem? (i := 25) rfl) dL_law_216 ?_
        refine wk_callW C hR (As := [.ref l0A, .int ((60 : Int32) + l3I), .int (1000000 : Int32)]) (cnt := 3) (tL_drawn (l := l) harg hW hl0A h) rfl (wkGoodW (List.mem_of_getElem? (i := 8) rfl) (List.mem_of_getElem? (i := 9) rfl) (List.mem_of_getElem? (i := 3) rfl) hbL_law_L_drawn gdL_drawn) (Nat.le_trans (by decide : 1 + 1 ≤ 60) hd) (by decide) ⟨by decide, by decide, by decide +kernel⟩ rfl rfl (Nat.le_of_ble_eq_true rfl) hc hs dL_law_218 (fun v' S107 hp => ?_)
        obtain ⟨v106, rfl, h, hWS107, hXS107⟩ := hp
        refine wk_istore C (lv' := [some (.ref l0A), some (.ref l1A), some (.int l2I), some (.int l3I), some (.int v106), none, none, none, none, none]) dL_law_221 (by decide) rfl ?_
        refine wk_iload C dL_law_223 rfl ?_
        refine wk_iload_n C dL_law_225 rfl rfl ?_
        obtain ⟨z111, h⟩ := h
        refine wk_irem C dL_law_226 z111 rfl ?_
        obtain ⟨x112, ex112, h⟩ := wkLt_some h
        refine wk_topi ex112 ?_
        refine wk_istore C (lv' := [some (.ref l0A), some (.ref l1A), some (.int l2I), some (.int l3I), some (.int v106), some (.int x112), none, none, none, none]) dL_law_227 (by decide) rfl ?_
        refine wk_aload_n C dL_law_229 rfl rfl ?_
        obtain ⟨k116, n117, hk116, hn117, h⟩ := h
        refine wk_callW C hR (As := [.ref l1A]) (cnt := 1) (tL_checksum (l := l) hst hex hlt hWS107 (hXS107 _ _ hl1A) h) rfl (wkGoodW (List.mem_of_getElem? (i := 26) rfl) (List.mem_of_getElem? (i := 27) rfl) (List.mem_of_getElem? (i := 3) rfl) hbL_law_L_checksum gdL_checksum) (Nat.le_trans (by decide : 57 + 1 ≤ 60) hd) (by decide) ⟨by decide, by decide, by decide +kernel⟩ rfl rfl (Nat.le_of_ble_eq_true rfl) hk116 hn117 dL_law_230 (fun v' S114 hp => ?_)
        obtain ⟨v113, rfl, h, hWS114, hXS114⟩ := hp
        refine wk_lstore C (lv' := [some (.ref l0A), some (.ref l1A), some (.int l2I), some (.int l3I), some (.int v106), some (.int x112), some (.long v113), none, none, none]) dL_law_233 (by decide) rfl ?_
        refine wk_iload C dL_law_235 rfl ?_
        refine wk_bipush C (v := 10) dL_law_237 (by decide) ?_
        refine wk_idiv C dL_law_239 (by decide) rfl ?_
        refine wk_bipush C (v := 8) dL_law_240 (by decide) ?_
        refine wk_irem C dL_law_242 (by decide) rfl ?_
        by_cases c119 : ((v106 / (10 : Int32)) - (v106 / (10 : Int32)) / (8 : Int32) * (8 : Int32)) = 0
        · rw [if_pos c119] at h
          rw [c119]
          refine wk_tabIn C (tgt := 284) (off := 41) dL_law_243 (by decide) (by decide) (by decide) (by decide) ?_
          refine wk_aload_n C dL_law_284 rfl rfl ?_
          refine wk_iload C dL_law_285 rfl ?_
          refine wk_iconst C (v := (-1)) dL_law_287 (by decide) ?_
          refine wk_aload_n C dL_law_288 rfl rfl ?_
          refine wk_sipush C (v := 800) dL_law_289 (by decide) ?_
          refine wk_bipush C (v := 9) dL_law_292 (by decide) ?_
          refine wk_iload_n C dL_law_294 rfl rfl ?_
          refine wk_imul C dL_law_295 rfl ?_
          refine wk_iadd C dL_law_296 rfl ?_
          obtain ⟨k123, n124, hk123, hn124, h⟩ := h
          refine wk_callW C hR (As := [.ref l1A, .int x112, .int (-1 : Int32), .ref l0A, .int ((800 : Int32) + ((9 : Int32) * l3I))]) (cnt := 5) (tL_writes (l := l) hst hstr hcs harg hex hlt hWS114 (hXS114 _ _ (hXS107 _ _ hl1A)) hl0A h) rfl (wkGoodW (List.mem_of_getElem? (i := 18) rfl) (List.mem_of_getElem? (i := 19) rfl) (List.mem_of_getElem? (i := 3) rfl) hbL_law_L_writes gdL_writes) (Nat.le_trans (by decide : 9 + 1 ≤ 60) hd) (by decide) ⟨by decide, by decide, by decide +kernel⟩ rfl rfl (Nat.le_of_ble_eq_true rfl) hk123 hn124 dL_law_297 (fun v' S121 hp => ?_)
          obtain ⟨v120, rfl, h, hWS121, hXS121⟩ := hp
          refine wk_lstore C (lv' := [some (.ref l0A), some (.ref l1A), some (.int l2I), some (.int l3I), some (.int v106), some (.int x112), some (.long v113), none, some (.long v120), none]) dL_law_300 (by decide) rfl ?_
          refine wk_goto C (tgt := 597) dL_law_302 (by decide) ?_
          exact wk_forget (lv' := [some (.ref l0A), some (.ref l1A), some (.int l2I), some (.int l3I), some (.int v106), some (.int x112), some (.long v113), none, some (.long v120), none]) (wkLs.le ⟨rfl, rfl, rfl, rfl, rfl, rfl, rfl, rfl, trivial⟩) (ih.2.2.2.1 _ _ hk123 hn124 _ _ _ _ _ _ _ _ _ hWS121 (wkExt.tr (wkExt.tr (wkExt.tr hE hXS107) hXS114) hXS121) hl0A (hXS121 _ _ (hXS114 _ _ (hXS107 _ _ hl1A))) h)
        · rw [if_neg c119] at h
          by_cases c125 : ((v106 / (10 : Int32)) - (v106 / (10 : Int32)) / (8 : Int32) * (8 : Int32)) = 1
          · rw [if_pos c125] at h
            rw [c125]
            refine wk_tabIn C (tgt := 305) (off := 62) dL_law_243 (by decide) (by decide) (by decide) (by decide) ?_
            refine wk_aload_n C dL_law_305 rfl rfl ?_
            refine wk_iload C dL_law_306 rfl ?_
            obtain ⟨k129, n130, hk129, hn130, h⟩ := h
            refine wk_callT C hR (As := [.ref l1A, .int x112]) (cnt := 2) (tL_items (l := l) hcs hex hlt hWS114 (hXS114 _ _ (hXS107 _ _ hl1A)) h) rfl (wkGoodW (List.mem_of_getElem? (i := 28) rfl) (List.mem_of_getElem? (i := 29) rfl) (List.mem_of_getElem? (i := 3) rfl) hbL_law_L_items gdL_items) (Nat.le_trans (by decide : 8 + 1 ≤ 60) hd) (by decide) ⟨by decide, by decide, by decide +kernel⟩ rfl rfl (Nat.le_of_ble_eq_true rfl) hk129 hn130 dL_law_308 (fun v' S127 hp => ?_)
            obtain ⟨v126, rfl, h, hWS127, hXS127⟩ := hp
            refine wk_lconst C (v := 0) dL_law_311 (by decide) ?_
            refine wk_lcmp C dL_law_312 rfl ?_
            refine wk_if_ne C (tgt := 322) dL_law_313 (by decide) (fun c131 => ?_) (fun c131 => ?_)
            · rw [if_neg c131] at h
              refine wk_aload_n C dL_law_322 rfl rfl ?_
              refine wk_iload C dL_law_323 rfl ?_
              refine wk_iload C dL_law_325 rfl ?_
              refine wk_bipush C (v := 80) dL_law_327 (by decide) ?_
              refine wk_idiv C dL_law_329 (by decide) rfl ?_
              refine wk_aload_n C dL_law_330 rfl rfl ?_
              refine wk_iload C dL_law_331 rfl ?_
              obtain ⟨k135, n136, hk135, hn136, h⟩ := h
              refine wk_callT C hR (As := [.ref l1A, .int x112]) (cnt := 2) (tL_items (l := l) hcs hex hlt hWS127 (hXS127 _ _ (hXS114 _ _ (hXS107 _ _ hl1A))) h) rfl (wkGoodW (List.mem_of_getElem? (i := 28) rfl) (List.mem_of_getElem? (i := 29) rfl) (List.mem_of_getElem? (i := 3) rfl) hbL_law_L_items gdL_items) (Nat.le_trans (by decide : 8 + 1 ≤ 60) hd) (by decide) ⟨by decide, by decide, by decide +kernel⟩ rfl rfl (Nat.le_of_ble_eq_true rfl) hk135 hn136 dL_law_333 (fun v' S133 hp => ?_)
              obtain ⟨v132, rfl, h, hWS133, hXS133⟩ := hp
              refine wk_l2i C dL_law_336 rfl ?_
              obtain ⟨z137, h⟩ := h
              refine wk_irem C dL_law_337 z137 rfl ?_
              refine wk_aload_n C dL_law_338 rfl rfl ?_
              refine wk_sipush C (v := 800) dL_law_339 (by decide) ?_
              refine wk_bipush C (v := 9) dL_law_342 (by decide) ?_
              refine wk_iload_n C dL_law_344 rfl rfl ?_
              refine wk_imul C dL_law_345 rfl ?_
              refine wk_iadd C dL_law_346 rfl ?_
              obtain ⟨k141, n142, hk141, hn142, h⟩ := h
              refine wk_callW C hR (As := [.ref l1A, .int x112, .int ((v106 / (80 : Int32)) - (v106 / (80 : Int32)) / (Int64.toInt32 v132) * (Int64.toInt32 v132)), .ref l0A, .int ((800 : Int32) + ((9 : Int32) * l3I))]) (cnt := 5) (tL_writes (l := l) hst hstr hcs harg hex hlt hWS133 (hXS133 _ _ (hXS127 _ _ (hXS114 _ _ (hXS107 _ _ hl1A)))) hl0A h) rfl (wkGoodW (List.mem_of_getElem? (i := 18) rfl) (List.mem_of_getElem? (i := 19) rfl) (List.mem_of_getElem? (i := 3) rfl) hbL_law_L_writes gdL_writes) (Nat.le_trans (by decide : 9 + 1 ≤ 60) hd) (by decide) ⟨by decide, by decide, by decide +kernel⟩ rfl rfl (Nat.le_of_ble_eq_true rfl) hk141 hn142 dL_law_347 (fun v' S139 hp => ?_)
              obtain ⟨v138, rfl, h, hWS139, hXS139⟩ := hp
              refine wk_lstore C (lv' := [some (.ref l0A), some (.ref l1A), some (.int l2I), some (.int l3I), some (.int v106), some (.int x112), some (.long v113), none, some (.long v138), none]) dL_law_350 (by decide) rfl ?_
              refine wk_goto C (tgt := 597) dL_law_352 (by decide) ?_
              exact wk_forget (lv' := [some (.ref l0A), some (.ref l1A), some (.int l2I), some (.int l3I), some (.int v106), some (.int x112), some (.long v113), none, some (.long v138), none]) (wkLs.le ⟨rfl, rfl, rfl, rfl, rfl, rfl, rfl, rfl, trivial⟩) (ih.2.2.2.1 _ _ hk141 hn142 _ _ _ _ _ _ _ _ _ hWS139 (wkExt.tr (wkExt.tr (wkExt.tr (wkExt.tr (wkExt.tr hE hXS107) hXS114) hXS127) hXS133) hXS139) hl0A (hXS139 _ _ (hXS133 _ _ (hXS127 _ _ (hXS114 _ _ (hXS107 _ _ hl1A))))) h)
            · rw [if_pos c131] at h
              refine wk_ldc2 C (v := (-4000000000000000000)) (List.mem_of_getElem? (i := 30) rfl) dL_law_316 ?_
              refine wk_goto C (tgt := 350) dL_law_319 (by decide) ?_
              refine wk_lstore C (lv' := [some (.ref l0A), some (.ref l1A), some (.int l2I), some (.int l3I), some (.int v106), some (.int x112), some (.long v113), none, some (.long (-4000000000000000000 : Int64)), none]) dL_law_350 (by decide) rfl ?_
              refine wk_goto C (tgt := 597) dL_law_352 (by decide) ?_
              exact wk_forget (lv' := [some (.ref l0A), some (.ref l1A), some (.int l2I), some (.int l3I), some (.int v106), some (.int x112), some (.long v113), none, some (.long (-4000000000000000000 : Int64)), none]) (wkLs.le ⟨rfl, rfl, rfl, rfl, rfl, rfl, rfl, rfl, trivial⟩) (ih.2.2.2.1 _ _ hk129 hn130 _ _ _ _ _ _ _ _ _ hWS127 (wkExt.tr (wkExt.tr (wkExt.tr hE hXS107) hXS114) hXS127) hl0A (hXS127 _ _ (hXS114 _ _ (hXS107 _ _ hl1A))) h)
          · rw [if_neg c125] at h
            by_cases c143 : ((v106 / (10 : Int32)) - (v106 / (10 : Int32)) / (8 : Int32) * (8 : Int32)) = 2
            · rw [if_pos c143] at h
              rw [c143]
              refine wk_tabIn C (tgt := 355) (off := 112) dL_law_243 (by decide) (by decide) (by decide) (by decide) ?_
              refine wk_aload_n C dL_law_355 rfl rfl ?_
              refine wk_iload C dL_law_356 rfl ?_
              refine wk_iload C dL_law_358 rfl ?_
              refine wk_bipush C (v := 80) dL_law_360 (by decide) ?_
              refine wk_idiv C dL_law_362 (by decide) rfl ?_
              refine wk_iconst C (v := 3) dL_law_363 (by decide) ?_
              refine wk_irem C dL_law_364 (by decide) rfl ?_
              obtain ⟨k147, n148, hk147, hn148, h⟩ := h
              refine wk_callT C hR (As := [.ref l1A, .int x112, .int ((v106 / (80 : Int32)) - (v106 / (80 : Int32)) / (3 : Int32) * (3 : Int32))]) (cnt := 3) (tL_drop (l := l) hcs hex hlt hWS114 (hXS114 _ _ (hXS107 _ _ hl1A)) h) rfl (wkGoodW (List.mem_of_getElem? (i := 31) rfl) (List.mem_of_getElem? (i := 32) rfl) (List.mem_of_getElem? (i := 3) rfl) hbL_law_L_drop gdL_drop) (Nat.le_trans (by decide : 8 + 1 ≤ 60) hd) (by decide) ⟨by decide, by decide, by decide +kernel⟩ rfl rfl (Nat.le_of_ble_eq_true rfl) hk147 hn148 dL_law_365 (fun v' S145 hp => ?_)
              obtain ⟨v144, rfl, h, hWS145, hXS145⟩ := hp
              refine wk_lstore C (lv' := [some (.ref l0A), some (.ref l1A), some (.int l2I), some (.int l3I), some (.int v106), some (.int x112), some (.long v113), none, some (.long v144), none]) dL_law_368 (by decide) rfl ?_
              refine wk_goto C (tgt := 597) dL_law_370 (by decide) ?_
              exact wk_forget (lv' := [some (.ref l0A), some (.ref l1A), some (.int l2I), some (.int l3I), some (.int v106), some (.int x112), some (.long v113), none, some (.long v144), none]) (wkLs.le ⟨rfl, rfl, rfl, rfl, rfl, rfl, rfl, rfl, trivial⟩) (ih.2.2.2.1 _ _ hk147 hn148 _ _ _ _ _ _ _ _ _ hWS145 (wkExt.tr (wkExt.tr (wkExt.tr hE hXS107) hXS114) hXS145) hl0A (hXS145 _ _ (hXS114 _ _ (hXS107 _ _ hl1A))) h)
            · rw [if_neg c143] at h
              by_cases c149 : ((v106 / (10 : Int32)) - (v106 / (10 : Int32)) / (8 : Int32) * (8 : Int32)) = 3
              · rw [if_pos c149] at h
                rw [c149]
                refine wk_tabIn C (tgt := 373) (off := 130) dL_law_243 (by decide) (by decide) (by decide) (by decide) ?_
                refine wk_aload_n C dL_law_373 rfl rfl ?_
                refine wk_iload C dL_law_374 rfl ?_
                refine wk_aload_n C dL_law_376 rfl rfl ?_
                refine wk_iload C dL_law_377 rfl ?_
                obtain ⟨k153, n154, hk153, hn154, h⟩ := h
                refine wk_callT C hR (As := [.ref l1A, .int x112]) (cnt := 2) (tL_kindOf (l := l) hstr hcs hex hlt hWS114 (hXS114 _ _ (hXS107 _ _ hl1A)) h) rfl (wkGoodW (List.mem_of_getElem? (i := 33) rfl) (List.mem_of_getElem? (i := 34) rfl) (List.mem_of_getElem? (i := 3) rfl) hbL_law_L_kindOf gdL_kindOf) (Nat.le_trans (by decide : 8 + 1 ≤ 60) hd) (by decide) ⟨by decide, by decide, by decide +kernel⟩ rfl rfl (Nat.le_of_ble_eq_true rfl) hk153 hn154 dL_law_379 (fun v' S151 hp => ?_)
                obtain ⟨v150, rfl, h, hWS151, hXS151⟩ := hp
                refine wk_l2i C dL_law_382 rfl ?_
                refine wk_i2c C dL_law_383 rfl ?_
                refine wk_iconst C (v := 2) dL_law_384 (by decide) ?_
                obtain ⟨k158, n159, hk158, hn159, h⟩ := h
                refine wk_callW C hR (As := [.int ((Int32.toUInt32 (Int64.toInt32 v150)) % 65536).toInt32, .int (2 : Int32)]) (cnt := 2) (tL_limit (l := l) hWS151  h) rfl (wkGoodW (List.mem_of_getElem? (i := 14) rfl) (List.mem_of_getElem? (i := 15) rfl) (List.mem_of_getElem? (i := 3) rfl) hbL_law_L_limit gdL_limit) (Nat.le_trans (by decide : 1 + 1 ≤ 60) hd) (by decide) ⟨by decide, by decide, by decide +kernel⟩ rfl rfl (Nat.le_of_ble_eq_true rfl) hk158 hn159 dL_law_385 (fun v' S156 hp => ?_)
                obtain ⟨v155, rfl, h, hWS156, hXS156⟩ := hp
                refine wk_iload C dL_law_388 rfl ?_
                refine wk_bipush C (v := 80) dL_law_390 (by decide) ?_
                refine wk_idiv C dL_law_392 (by decide) rfl ?_
                refine wk_aload_n C dL_law_393 rfl rfl ?_
                refine wk_iload C dL_law_394 rfl ?_
                obtain ⟨k163, n164, hk163, hn164, h⟩ := h
                refine wk_callT C hR (As := [.ref l1A, .int x112]) (cnt := 2) (tL_kindOf (l := l) hstr hcs hex hlt hWS156 (hXS156 _ _ (hXS151 _ _ (hXS114 _ _ (hXS107 _ _ hl1A)))) h) rfl (wkGoodW (List.mem_of_getElem? (i := 33) rfl) (List.mem_of_getElem? (i := 34) rfl) (List.mem_of_getElem? (i := 3) rfl) hbL_law_L_kindOf gdL_kindOf) (Nat.le_trans (by decide : 8 + 1 ≤ 60) hd) (by decide) ⟨by decide, by decide, by decide +kernel⟩ rfl rfl (Nat.le_of_ble_eq_true rfl) hk163 hn164 dL_law_396 (fun v' S161 hp => ?_)
                obtain ⟨v160, rfl, h, hWS161, hXS161⟩ := hp
                refine wk_l2i C dL_law_399 rfl ?_
                refine wk_i2c C dL_law_400 rfl ?_
                refine wk_iconst C (v := 3) dL_law_401 (by decide) ?_
                obtain ⟨k168, n169, hk168, hn169, h⟩ := h
                refine wk_callW C hR (As := [.int ((Int32.toUInt32 (Int64.toInt32 v160)) % 65536).toInt32, .int (3 : Int32)]) (cnt := 2) (tL_limit (l := l) hWS161  h) rfl (wkGoodW (List.mem_of_getElem? (i := 14) rfl) (List.mem_of_getElem? (i := 15) rfl) (List.mem_of_getElem? (i := 3) rfl) hbL_law_L_limit gdL_limit) (Nat.le_trans (by decide : 1 + 1 ≤ 60) hd) (by decide) ⟨by decide, by decide, by decide +kernel⟩ rfl rfl (Nat.le_of_ble_eq_true rfl) hk168 hn169 dL_law_402 (fun v' S166 hp => ?_)
                obtain ⟨v165, rfl, h, hWS166, hXS166⟩ := hp
                obtain ⟨z170, h⟩ := h
                refine wk_irem C dL_law_405 z170 rfl ?_
                refine wk_iadd C dL_law_406 rfl ?_
                obtain ⟨k174, n175, hk174, hn175, h⟩ := h
                refine wk_callT C hR (As := [.ref l1A, .int x112, .int (v155 + ((v106 / (80 : Int32)) - (v106 / (80 : Int32)) / v165 * v165))]) (cnt := 3) (tL_setBound (l := l) hst hcs hex hlt hWS166 (hXS166 _ _ (hXS161 _ _ (hXS156 _ _ (hXS151 _ _ (hXS114 _ _ (hXS107 _ _ hl1A)))))) h) rfl (wkGoodW (List.mem_of_getElem? (i := 35) rfl) (List.mem_of_getElem? (i := 36) rfl) (List.mem_of_getElem? (i := 3) rfl) hbL_law_L_setBound gdL_setBound) (Nat.le_trans (by decide : 57 + 1 ≤ 60) hd) (by decide) ⟨by decide, by decide, by decide +kernel⟩ rfl rfl (Nat.le_of_ble_eq_true rfl) hk174 hn175 dL_law_407 (fun v' S172 hp => ?_)
                obtain ⟨v171, rfl, h, hWS172, hXS172⟩ := hp
                refine wk_ldc2 C (v := (-4000000000000000002)) (List.mem_of_getElem? (i := 37) rfl) dL_law_410 ?_
                refine wk_lcmp C dL_law_413 rfl ?_
                refine wk_if_ne C (tgt := 423) dL_law_414 (by decide) (fun c176 => ?_) (fun c176 => ?_)
                · rw [if_neg c176] at h
                  refine wk_lconst C (v := 0) dL_law_423 (by decide) ?_
                  refine wk_lstore C (lv' := [some (.ref l0A), some (.ref l1A), some (.int l2I), some (.int l3I), some (.int v106), some (.int x112), some (.long v113), none, some (.long (0 : Int64)), none]) dL_law_424 (by decide) rfl ?_
                  refine wk_goto C (tgt := 597) dL_law_426 (by decide) ?_
                  exact wk_forget (lv' := [some (.ref l0A), some (.ref l1A), some (.int l2I), some (.int l3I), some (.int v106), some (.int x112), some (.long v113), none, some (.long (0 : Int64)), none]) (wkLs.le ⟨rfl, rfl, rfl, rfl, rfl, rfl, rfl, rfl, trivial⟩) (ih.2.2.2.1 _ _ hk174 hn175 _ _ _ _ _ _ _ _ _ hWS172 (wkExt.tr (wkExt.tr (wkExt.tr (wkExt.tr (wkExt.tr (wkExt.tr (wkExt.tr hE hXS107) hXS114) hXS151) hXS156) hXS161) hXS166) hXS172) hl0A (hXS172 _ _ (hXS166 _ _ (hXS161 _ _ (hXS156 _ _ (hXS151 _ _ (hXS114 _ _ (hXS107 _ _ hl1A))))))) h)
                · rw [if_pos c176] at h
                  refine wk_ldc2 C (v := (-4000000000000000000)) (List.mem_of_getElem? (i := 30) rfl) dL_law_417 ?_
                  refine wk_goto C (tgt := 424) dL_law_420 (by decide) ?_
                  refine wk_lstore C (lv' := [some (.ref l0A), some (.ref l1A), some (.int l2I), some (.int l3I), some (.int v106), some (.int x112), some (.long v113), none, some (.long (-4000000000000000000 : Int64)), none]) dL_law_424 (by decide) rfl ?_
                  refine wk_goto C (tgt := 597) dL_law_426 (by decide) ?_
                  exact wk_forget (lv' := [some (.ref l0A), some (.ref l1A), some (.int l2I), some (.int l3I), some (.int v106), some (.int x112), some (.long v113), none, some (.long (-4000000000000000000 : Int64)), none]) (wkLs.le ⟨rfl, rfl, rfl, rfl, rfl, rfl, rfl, rfl, trivial⟩) (ih.2.2.2.1 _ _ hk174 hn175 _ _ _ _ _ _ _ _ _ hWS172 (wkExt.tr (wkExt.tr (wkExt.tr (wkExt.tr (wkExt.tr (wkExt.tr (wkExt.tr hE hXS107) hXS114) hXS151) hXS156) hXS161) hXS166) hXS172) hl0A (hXS172 _ _ (hXS166 _ _ (hXS161 _ _ (hXS156 _ _ (hXS151 _ _ (hXS114 _ _ (hXS107 _ _ hl1A))))))) h)
              · rw [if_neg c149] at h
                by_cases c177 : ((v106 / (10 : Int32)) - (v106 / (10 : Int32)) / (8 : Int32) * (8 : Int32)) = 4
                · rw [if_pos c177] at h
                  rw [c177]
                  refine wk_tabIn C (tgt := 429) (off := 186) dL_law_243 (by decide) (by decide) (by decide) (by decide) ?_
                  refine wk_aload_n C dL_law_429 rfl rfl ?_
                  refine wk_iload C dL_law_430 rfl ?_
                  refine wk_iload C dL_law_432 rfl ?_
                  refine wk_bipush C (v := 80) dL_law_434 (by decide) ?_
                  refine wk_idiv C dL_law_436 (by decide) rfl ?_
                  refine wk_iload_n C dL_law_437 rfl rfl ?_
                  obtain ⟨z178, h⟩ := h
                  refine wk_irem C dL_law_438 z178 rfl ?_
                  refine wk_iload C dL_law_439 rfl ?_
                  refine wk_sipush C (v := 800) dL_law_441 (by decide) ?_
                  refine wk_idiv C dL_law_444 (by decide) rfl ?_
                  refine wk_bipush C (v := 41) dL_law_445 (by decide) ?_
                  refine wk_irem C dL_law_447 (by decide) rfl ?_
                  refine wk_bipush C (v := 20) dL_law_448 (by decide) ?_
                  refine wk_isub C dL_law_450 rfl ?_
                  obtain ⟨k182, n183, hk182, hn183, h⟩ := h
                  refine wk_callT C hR (As := [.ref l1A, .int x112, .int ((v106 / (80 : Int32)) - (v106 / (80 : Int32)) / l2I * l2I), .int (((v106 / (800 : Int32)) - (v106 / (800 : Int32)) / (41 : Int32) * (41 : Int32)) - (20 : Int32))]) (cnt := 4) (tL_lean (l := l) hst hcs hex hlt hWS114 (hXS114 _ _ (hXS107 _ _ hl1A)) h) rfl (wkGoodW (List.mem_of_getElem? (i := 38) rfl) (List.mem_of_getElem? (i := 39) rfl) (List.mem_of_getElem? (i := 3) rfl) hbL_law_L_lean gdL_lean) (Nat.le_trans (by decide : 57 + 1 ≤ 60) hd) (by decide) ⟨by decide, by decide, by decide +kernel⟩ rfl rfl (Nat.le_of_ble_eq_true rfl) hk182 hn183 dL_law_451 (fun v' S180 hp => ?_)
                  obtain ⟨v179, rfl, h, hWS180, hXS180⟩ := hp
                  refine wk_ldc2 C (v := (-2000000000000000000)) (List.mem_of_getElem? (i := 40) rfl) dL_law_454 ?_
                  refine wk_lcmp C dL_law_457 rfl ?_
                  refine wk_if_ge C (tgt := 467) dL_law_458 (by decide) (fun c184 => ?_) (fun c184 => ?_)
                  · rw [if_pos c184] at h
                    refine wk_lconst C (v := 0) dL_law_467 (by decide) ?_
                    refine wk_lstore C (lv' := [some (.ref l0A), some (.ref l1A), some (.int l2I), some (.int l3I), some (.int v106), some (.int x112), some (.long v113), none, some (.long (0 : Int64)), none]) dL_law_468 (by decide) rfl ?_
                    refine wk_goto C (tgt := 597) dL_law_470 (by decide) ?_
                    exact wk_forget (lv' := [some (.ref l0A), some (.ref l1A), some (.int l2I), some (.int l3I), some (.int v106), some (.int x112), some (.long v113), none, some (.long (0 : Int64)), none]) (wkLs.le ⟨rfl, rfl, rfl, rfl, rfl, rfl, rfl, rfl, trivial⟩) (ih.2.2.2.1 _ _ hk182 hn183 _ _ _ _ _ _ _ _ _ hWS180 (wkExt.tr (wkExt.tr (wkExt.tr hE hXS107) hXS114) hXS180) hl0A (hXS180 _ _ (hXS114 _ _ (hXS107 _ _ hl1A))) h)
                  · rw [if_neg c184] at h
                    refine wk_ldc2 C (v := (-4000000000000000000)) (List.mem_of_getElem? (i := 30) rfl) dL_law_461 ?_
                    refine wk_goto C (tgt := 468) dL_law_464 (by decide) ?_
                    refine wk_lstore C (lv' := [some (.ref l0A), some (.ref l1A), some (.int l2I), some (.int l3I), some (.int v106), some (.int x112), some (.long v113), none, some (.long (-4000000000000000000 : Int64)), none]) dL_law_468 (by decide) rfl ?_
                    refine wk_goto C (tgt := 597) dL_law_470 (by decide) ?_
                    exact wk_forget (lv' := [some (.ref l0A), some (.ref l1A), some (.int l2I), some (.int l3I), some (.int v106), some (.int x112), some (.long v113), none, some (.long (-4000000000000000000 : Int64)), none]) (wkLs.le ⟨rfl, rfl, rfl, rfl, rfl, rfl, rfl, rfl, trivial⟩) (ih.2.2.2.1 _ _ hk182 hn183 _ _ _ _ _ _ _ _ _ hWS180 (wkExt.tr (wkExt.tr (wkExt.tr hE hXS107) hXS114) hXS180) hl0A (hXS180 _ _ (hXS114 _ _ (hXS107 _ _ hl1A))) h)
                · rw [if_neg c177] at h
                  by_cases c185 : ((v106 / (10 : Int32)) - (v106 / (10 : Int32)) / (8 : Int32) * (8 : Int32)) = 5
                  · rw [if_pos c185] at h
                    rw [c185]
                    refine wk_tabIn C (tgt := 473) (off := 230) dL_law_243 (by decide) (by decide) (by decide) (by decide) ?_
                    refine wk_aload_n C dL_law_473 rfl rfl ?_
                    refine wk_iload C dL_law_474 rfl ?_
                    obtain ⟨k189, n190, hk189, hn190, h⟩ := h
                    refine wk_callT C hR (As := [.ref l1A, .int x112]) (cnt := 2) (tL_stand (l := l) hst hcs hex hlt hWS114 (hXS114 _ _ (hXS107 _ _ hl1A)) h) rfl (wkGoodW (List.mem_of_getElem? (i := 41) rfl) (List.mem_of_getElem? (i := 42) rfl) (List.mem_of_getElem? (i := 3) rfl) hbL_law_L_stand gdL_stand) (Nat.le_trans (by decide : 57 + 1 ≤ 60) hd) (by decide) ⟨by decide, by decide, by decide +kernel⟩ rfl rfl (Nat.le_of_ble_eq_true rfl) hk189 hn190 dL_law_476 (fun v' S187 hp => ?_)
                    obtain ⟨v186, rfl, h, hWS187, hXS187⟩ := hp
                    refine wk_ldc2 C (v := (-2000000000000000000)) (List.mem_of_getElem? (i := 40) rfl) dL_law_479 ?_
                    refine wk_lcmp C dL_law_482 rfl ?_
                    refine wk_if_ge C (tgt := 492) dL_law_483 (by decide) (fun c191 => ?_) (fun c191 => ?_)
                    · rw [if_pos c191] at h
                      refine wk_lconst C (v := 0) dL_law_492 (by decide) ?_
                      refine wk_lstore C (lv' := [some (.ref l0A), some (.ref l1A), some (.int l2I), some (.int l3I), some (.int v106), some (.int x112), some (.long v113), none, some (.long (0 : Int64)), none]) dL_law_493 (by decide) rfl ?_
                      refine wk_goto C (tgt := 597) dL_law_495 (by decide) ?_
                      exact wk_forget (lv' := [some (.ref l0A), some (.ref l1A), some (.int l2I), some (.int l3I), some (.int v106), some (.int x112), some (.long v113), none, some (.long (0 : Int64)), none]) (wkLs.le ⟨rfl, rfl, rfl, rfl, rfl, rfl, rfl, rfl, trivial⟩) (ih.2.2.2.1 _ _ hk189 hn190 _ _ _ _ _ _ _ _ _ hWS187 (wkExt.tr (wkExt.tr (wkExt.tr hE hXS107) hXS114) hXS187) hl0A (hXS187 _ _ (hXS114 _ _ (hXS107 _ _ hl1A))) h)
                    · rw [if_neg c191] at h
                      refine wk_ldc2 C (v := (-4000000000000000000)) (List.mem_of_getElem? (i := 30) rfl) dL_law_486 ?_
                      refine wk_goto C (tgt := 493) dL_law_489 (by decide) ?_
                      refine wk_lstore C (lv' := [some (.ref l0A), some (.ref l1A), some (.int l2I), some (.int l3I), some (.int v106), some (.int x112), some (.long v113), none, some (.long (-4000000000000000000 : Int64)), none]) dL_law_493 (by decide) rfl ?_
                      refine wk_goto C (tgt := 597) dL_law_495 (by decide) ?_
                      exact wk_forget (lv' := [some (.ref l0A), some (.ref l1A), some (.int l2I), some (.int l3I), some (.int v106), some (.int x112), some (.long v113), none, some (.long (-4000000000000000000 : Int64)), none]) (wkLs.le ⟨rfl, rfl, rfl, rfl, rfl, rfl, rfl, rfl, trivial⟩) (ih.2.2.2.1 _ _ hk189 hn190 _ _ _ _ _ _ _ _ _ hWS187 (wkExt.tr (wkExt.tr (wkExt.tr hE hXS107) hXS114) hXS187) hl0A (hXS187 _ _ (hXS114 _ _ (hXS107 _ _ hl1A))) h)
                  · rw [if_neg c185] at h
                    by_cases c192 : ((v106 / (10 : Int32)) - (v106 / (10 : Int32)) / (8 : Int32) * (8 : Int32)) = 6
                    · rw [if_pos c192] at h
                      rw [c192]
                      refine wk_tabIn C (tgt := 498) (off := 255) dL_law_243 (by decide) (by decide) (by decide) (by decide) ?_
                      refine wk_aload_n C dL_law_498 rfl rfl ?_
                      refine wk_iload C dL_law_499 rfl ?_
                      obtain ⟨k196, n197, hk196, hn197, h⟩ := h
                      refine wk_callT C hR (As := [.ref l1A, .int x112]) (cnt := 2) (tL_borrow (l := l) hst hcs hex hlt hWS114 (hXS114 _ _ (hXS107 _ _ hl1A)) h) rfl (wkGoodW (List.mem_of_getElem? (i := 43) rfl) (List.mem_of_getElem? (i := 44) rfl) (List.mem_of_getElem? (i := 3) rfl) hbL_law_L_borrow gdL_borrow) (Nat.le_trans (by decide : 57 + 1 ≤ 60) hd) (by decide) ⟨by decide, by decide, by decide +kernel⟩ rfl rfl (Nat.le_of_ble_eq_true rfl) hk196 hn197 dL_law_501 (fun v' S194 hp => ?_)
                      obtain ⟨v193, rfl, h, hWS194, hXS194⟩ := hp
                      refine wk_lconst C (v := 0) dL_law_504 (by decide) ?_
                      refine wk_lcmp C dL_law_505 rfl ?_
                      refine wk_if_lt C (tgt := 541) dL_law_506 (by decide) (fun c198 => ?_) (fun c198 => ?_)
                      · rw [if_pos c198] at h
                        refine wk_ldc2 C (v := (-4000000000000000000)) (List.mem_of_getElem? (i := 30) rfl) dL_law_541 ?_
                        refine wk_lstore C (lv' := [some (.ref l0A), some (.ref l1A), some (.int l2I), some (.int l3I), some (.int v106), some (.int x112), some (.long v113), none, some (.long (-4000000000000000000 : Int64)), none]) dL_law_544 (by decide) rfl ?_
                        refine wk_goto C (tgt := 597) dL_law_546 (by decide) ?_
                        exact wk_forget (lv' := [some (.ref l0A), some (.ref l1A), some (.int l2I), some (.int l3I), some (.int v106), some (.int x112), some (.long v113), none, some (.long (-4000000000000000000 : Int64)), none]) (wkLs.le ⟨rfl, rfl, rfl, rfl, rfl, rfl, rfl, rfl, trivial⟩) (ih.2.2.2.1 _ _ hk196 hn197 _ _ _ _ _ _ _ _ _ hWS194 (wkExt.tr (wkExt.tr (wkExt.tr hE hXS107) hXS114) hXS194) hl0A (hXS194 _ _ (hXS114 _ _ (hXS107 _ _ hl1A))) h)
                      · rw [if_neg c198] at h
                        refine wk_aload_n C dL_law_509 rfl rfl ?_
                        refine wk_iconst C (v := 0) dL_law_510 (by decide) ?_
                        refine wk_iload C dL_law_511 rfl ?_
                        refine wk_aload_n C dL_law_513 rfl rfl ?_
                        refine wk_iload C dL_law_514 rfl ?_
                        obtain ⟨k202, n203, hk202, hn203, h⟩ := h
                        refine wk_callT C hR (As := [.ref l1A, .int x112]) (cnt := 2) (tL_answer (l := l) hst hcs hex hlt hWS194 (hXS194 _ _ (hXS114 _ _ (hXS107 _ _ hl1A))) h) rfl (wkGoodW (List.mem_of_getElem? (i := 45) rfl) (List.mem_of_getElem? (i := 46) rfl) (List.mem_of_getElem? (i := 3) rfl) hbL_law_L_answer gdL_answer) (Nat.le_trans (by decide : 57 + 1 ≤ 60) hd) (by decide) ⟨by decide, by decide, by decide +kernel⟩ rfl rfl (Nat.le_of_ble_eq_true rfl) hk202 hn203 dL_law_516 (fun v' S200 hp => ?_)
                        obtain ⟨v199, rfl, h, hWS200, hXS200⟩ := hp
                        refine wk_ldc2 C (v := 110) (List.mem_of_getElem? (i := 47) rfl) dL_law_519 ?_
                        refine wk_lcmp C dL_law_522 rfl ?_
                        refine wk_if_ne C (tgt := 530) dL_law_523 (by decide) (fun c204 => ?_) (fun c204 => ?_)
                        · rw [if_neg c204] at h
                          refine wk_iconst C (v := 0) dL_law_530 (by decide) ?_
                          obtain ⟨k208, n209, hk208, hn209, h⟩ := h
                          refine wk_callT C hR (As := [.ref l1A, .int (0 : Int32), .int x112, .int (0 : Int32)]) (cnt := 4) (tL_claim (l := l) hst hcs hex hlt hWS200 (hXS200 _ _ (hXS194 _ _ (hXS114 _ _ (hXS107 _ _ hl1A)))) h) rfl (wkGoodW (List.mem_of_getElem? (i := 48) rfl) (List.mem_of_getElem? (i := 49) rfl) (List.mem_of_getElem? (i := 3) rfl) hbL_law_L_claim gdL_claim) (Nat.le_trans (by decide : 57 + 1 ≤ 60) hd) (by decide) ⟨by decide, by decide, by decide +kernel⟩ rfl rfl (Nat.le_of_ble_eq_true rfl) hk208 hn209 dL_law_531 (fun v' S206 hp => ?_)
                          obtain ⟨v205, rfl, h, hWS206, hXS206⟩ := hp
                          refine wk_lconst C (v := 1) dL_law_534 (by decide) ?_
                          refine wk_lcmp C dL_law_535 rfl ?_
                          refine wk_if_ge C (tgt := 541) dL_law_536 (by decide) (fun c210 => ?_) (fun c210 => ?_)
                          · rw [if_pos c210] at h
                            refine wk_ldc2 C (v := (-4000000000000000000)) (List.mem_of_getElem? (i := 30) rfl) dL_law_541 ?_
                            refine wk_lstore C (lv' := [some (.ref l0A), some (.ref l1A), some (.int l2I), some (.int l3I), some (.int v106), some (.int x112), some (.long v113), none, some (.long (-4000000000000000000 : Int64)), none]) dL_law_544 (by decide) rfl ?_
                            refine wk_goto C (tgt := 597) dL_law_546 (by decide) ?_
                            exact wk_forget (lv' := [some (.ref l0A), some (.ref l1A), some (.int l2I), some (.int l3I), some (.int v106), some (.int x112), some (.long v113), none, some (.long (-4000000000000000000 : Int64)), none]) (wkLs.le ⟨rfl, rfl, rfl, rfl, rfl, rfl, rfl, rfl, trivial⟩) (ih.2.2.2.1 _ _ hk208 hn209 _ _ _ _ _ _ _ _ _ hWS206 (wkExt.tr (wkExt.tr (wkExt.tr (wkExt.tr (wkExt.tr hE hXS107) hXS114) hXS194) hXS200) hXS206) hl0A (hXS206 _ _ (hXS200 _ _ (hXS194 _ _ (hXS114 _ _ (hXS107 _ _ hl1A))))) h)
                          · rw [if_neg c210] at h
                            refine wk_iconst C (v := 0) dL_law_539 (by decide) ?_
                            exact E _ _ _ _ _ _ hk208 hn209 dL_law_540 rfl ⟨(0 : Int32), rfl, h, hWS206, (wkExt.tr (wkExt.tr (wkExt.tr (wkExt.tr (wkExt.tr hE hXS107) hXS114) hXS194) hXS200) hXS206)⟩
                        · rw [if_pos c204] at h
                          refine wk_iconst C (v := 1) dL_law_526 (by decide) ?_
                          refine wk_goto C (tgt := 531) dL_law_527 (by decide) ?_
                          obtain ⟨k214, n215, hk214, hn215, h⟩ := h
                          refine wk_callT C hR (As := [.ref l1A, .int (0 : Int32), .int x112, .int (1 : Int32)]) (cnt := 4) (tL_claim (l := l) hst hcs hex hlt hWS200 (hXS200 _ _ (hXS194 _ _ (hXS114 _ _ (hXS107 _ _ hl1A)))) h) rfl (wkGoodW (List.mem_of_getElem? (i := 48) rfl) (List.mem_of_getElem? (i := 49) rfl) (List.mem_of_getElem? (i := 3) rfl) hbL_law_L_claim gdL_claim) (Nat.le_trans (by decide : 57 + 1 ≤ 60) hd) (by decide) ⟨by decide, by decide, by decide +kernel⟩ rfl rfl (Nat.le_of_ble_eq_true rfl) hk214 hn215 dL_law_531 (fun v' S212 hp => ?_)
                          obtain ⟨v211, rfl, h, hWS212, hXS212⟩ := hp
                          refine wk_lconst C (v := 1) dL_law_534 (by decide) ?_
                          refine wk_lcmp C dL_law_535 rfl ?_
                          refine wk_if_ge C (tgt := 541) dL_law_536 (by decide) (fun c216 => ?_) (fun c216 => ?_)
                          · rw [if_pos c216] at h
                            refine wk_ldc2 C (v := (-4000000000000000000)) (List.mem_of_getElem? (i := 30) rfl) dL_law_541 ?_
                            refine wk_lstore C (lv' := [some (.ref l0A), some (.ref l1A), some (.int l2I), some (.int l3I), some (.int v106), some (.int x112), some (.long v113), none, some (.long (-4000000000000000000 : Int64)), none]) dL_law_544 (by decide) rfl ?_
                            refine wk_goto C (tgt := 597) dL_law_546 (by decide) ?_
                            exact wk_forget (lv' := [some (.ref l0A), some (.ref l1A), some (.int l2I), some (.int l3I), some (.int v106), some (.int x112), some (.long v113), none, some (.long (-4000000000000000000 : Int64)), none]) (wkLs.le ⟨rfl, rfl, rfl, rfl, rfl, rfl, rfl, rfl, trivial⟩) (ih.2.2.2.1 _ _ hk214 hn215 _ _ _ _ _ _ _ _ _ hWS212 (wkExt.tr (wkExt.tr (wkExt.tr (wkExt.tr (wkExt.tr hE hXS107) hXS114) hXS194) hXS200) hXS212) hl0A (hXS212 _ _ (hXS200 _ _ (hXS194 _ _ (hXS114 _ _ (hXS107 _ _ hl1A))))) h)
                          · rw [if_neg c216] at h
                            refine wk_iconst C (v := 0) dL_law_539 (by decide) ?_
                            exact E _ _ _ _ _ _ hk214 hn215 dL_law_540 rfl ⟨(0 : Int32), rfl, h, hWS212, (wkExt.tr (wkExt.tr (wkExt.tr (wkExt.tr (wkExt.tr hE hXS107) hXS114) hXS194) hXS200) hXS212)⟩
                    · rw [if_neg c192] at h
                      refine wk_tabOut C (tgt := 549) dL_law_243 (wkOut (fun z h1 h2 e => by
                      have hz : z = 0 ∨ z = 1 ∨ z = 2 ∨ z = 3 ∨ z = 4 ∨ z = 5 ∨ z = 6 := by omega
                      rcases hz with rfl | rfl | rfl | rfl | rfl | rfl | rfl
                      · exact c119 e
                      · exact c125 e
                      · exact c143 e
                      · exact c149 e
                      · exact c177 e
                      · exact c185 e
                      · exact c192 e)) (by decide) ?_
                      refine wk_aload_n C dL_law_549 rfl rfl ?_
                      refine wk_iload C dL_law_550 rfl ?_
                      obtain ⟨k220, n221, hk220, hn221, h⟩ := h
                      refine wk_callT C hR (As := [.ref l1A, .int x112]) (cnt := 2) (tL_borrow (l := l) hst hcs hex hlt hWS114 (hXS114 _ _ (hXS107 _ _ hl1A)) h) rfl (wkGoodW (List.mem_of_getElem? (i := 43) rfl) (List.mem_of_getElem? (i := 44) rfl) (List.mem_of_getElem? (i := 3) rfl) hbL_law_L_borrow gdL_borrow) (Nat.le_trans (by decide : 57 + 1 ≤ 60) hd) (by decide) ⟨by decide, by decide, by decide +kernel⟩ rfl rfl (Nat.le_of_ble_eq_true rfl) hk220 hn221 dL_law_552 (fun v' S218 hp => ?_)
                      obtain ⟨v217, rfl, h, hWS218, hXS218⟩ := hp
                      refine wk_lconst C (v := 0) dL_law_555 (by decide) ?_
                      refine wk_lcmp C dL_law_556 rfl ?_
                      refine wk_if_lt C (tgt := 592) dL_law_557 (by decide) (fun c222 => ?_) (fun c222 => ?_)
                      · rw [if_pos c222] at h
                        refine wk_ldc2 C (v := (-4000000000000000000)) (List.mem_of_getElem? (i := 30) rfl) dL_law_592 ?_
                        refine wk_lstore C (lv' := [some (.ref l0A), some (.ref l1A), some (.int l2I), some (.int l3I), some (.int v106), some (.int x112), some (.long v113), none, some (.long (-4000000000000000000 : Int64)), none]) dL_law_595 (by decide) rfl ?_
                        exact wk_forget (lv' := [some (.ref l0A), some (.ref l1A), some (.int l2I), some (.int l3I), some (.int v106), some (.int x112), some (.long v113), none, some (.long (-4000000000000000000 : Int64)), none]) (wkLs.le ⟨rfl, rfl, rfl, rfl, rfl, rfl, rfl, rfl, trivial⟩) (ih.2.2.2.1 _ _ hk220 hn221 _ _ _ _ _ _ _ _ _ hWS218 (wkExt.tr (wkExt.tr (wkExt.tr hE hXS107) hXS114) hXS218) hl0A (hXS218 _ _ (hXS114 _ _ (hXS107 _ _ hl1A))) h)
                      · rw [if_neg c222] at h
                        refine wk_aload_n C dL_law_560 rfl rfl ?_
                        refine wk_iconst C (v := 0) dL_law_561 (by decide) ?_
                        refine wk_iload C dL_law_562 rfl ?_
                        refine wk_aload_n C dL_law_564 rfl rfl ?_
                        refine wk_iload C dL_law_565 rfl ?_
                        obtain ⟨k226, n227, hk226, hn227, h⟩ := h
                        refine wk_callT C hR (As := [.ref l1A, .int x112]) (cnt := 2) (tL_answer (l := l) hst hcs hex hlt hWS218 (hXS218 _ _ (hXS114 _ _ (hXS107 _ _ hl1A))) h) rfl (wkGoodW (List.mem_of_getElem? (i := 45) rfl) (List.mem_of_getElem? (i := 46) rfl) (List.mem_of_getElem? (i := 3) rfl) hbL_law_L_answer gdL_answer) (Nat.le_trans (by decide : 57 + 1 ≤ 60) hd) (by decide) ⟨by decide, by decide, by decide +kernel⟩ rfl rfl (Nat.le_of_ble_eq_true rfl) hk226 hn227 dL_law_567 (fun v' S224 hp => ?_)
                        obtain ⟨v223, rfl, h, hWS224, hXS224⟩ := hp
                        refine wk_ldc2 C (v := 121) (List.mem_of_getElem? (i := 50) rfl) dL_law_570 ?_
                        refine wk_lcmp C dL_law_573 rfl ?_
                        refine wk_if_ne C (tgt := 581) dL_law_574 (by decide) (fun c228 => ?_) (fun c228 => ?_)
                        · rw [if_neg c228] at h
                          refine wk_iconst C (v := 0) dL_law_581 (by decide) ?_
                          obtain ⟨k232, n233, hk232, hn233, h⟩ := h
                          refine wk_callT C hR (As := [.ref l1A, .int (0 : Int32), .int x112, .int (0 : Int32)]) (cnt := 4) (tL_claim (l := l) hst hcs hex hlt hWS224 (hXS224 _ _ (hXS218 _ _ (hXS114 _ _ (hXS107 _ _ hl1A)))) h) rfl (wkGoodW (List.mem_of_getElem? (i := 48) rfl) (List.mem_of_getElem? (i := 49) rfl) (List.mem_of_getElem? (i := 3) rfl) hbL_law_L_claim gdL_claim) (Nat.le_trans (by decide : 57 + 1 ≤ 60) hd) (by decide) ⟨by decide, by decide, by decide +kernel⟩ rfl rfl (Nat.le_of_ble_eq_true rfl) hk232 hn233 dL_law_582 (fun v' S230 hp => ?_)
                          obtain ⟨v229, rfl, h, hWS230, hXS230⟩ := hp
                          refine wk_lconst C (v := 0) dL_law_585 (by decide) ?_
                          refine wk_lcmp C dL_law_586 rfl ?_
                          refine wk_if_le C (tgt := 592) dL_law_587 (by decide) (fun c234 => ?_) (fun c234 => ?_)
                          · rw [if_pos c234] at h
                            refine wk_ldc2 C (v := (-4000000000000000000)) (List.mem_of_getElem? (i := 30) rfl) dL_law_592 ?_
                            refine wk_lstore C (lv' := [some (.ref l0A), some (.ref l1A), some (.int l2I), some (.int l3I), some (.int v106), some (.int x112), some (.long v113), none, some (.long (-4000000000000000000 : Int64)), none]) dL_law_595 (by decide) rfl ?_
                            exact wk_forget (lv' := [some (.ref l0A), some (.ref l1A), some (.int l2I), some (.int l3I), some (.int v106), some (.int x112), some (.long v113), none, some (.long (-4000000000000000000 : Int64)), none]) (wkLs.le ⟨rfl, rfl, rfl, rfl, rfl, rfl, rfl, rfl, trivial⟩) (ih.2.2.2.1 _ _ hk232 hn233 _ _ _ _ _ _ _ _ _ hWS230 (wkExt.tr (wkExt.tr (wkExt.tr (wkExt.tr (wkExt.tr hE hXS107) hXS114) hXS218) hXS224) hXS230) hl0A (hXS230 _ _ (hXS224 _ _ (hXS218 _ _ (hXS114 _ _ (hXS107 _ _ hl1A))))) h)
                          · rw [if_neg c234] at h
                            refine wk_iconst C (v := 0) dL_law_590 (by decide) ?_
                            exact E _ _ _ _ _ _ hk232 hn233 dL_law_591 rfl ⟨(0 : Int32), rfl, h, hWS230, (wkExt.tr (wkExt.tr (wkExt.tr (wkExt.tr (wkExt.tr hE hXS107) hXS114) hXS218) hXS224) hXS230)⟩
                        · rw [if_pos c228] at h
                          refine wk_iconst C (v := 1) dL_law_577 (by decide) ?_
                          refine wk_goto C (tgt := 582) dL_law_578 (by decide) ?_
                          obtain ⟨k238, n239, hk238, hn239, h⟩ := h
                          refine wk_callT C hR (As := [.ref l1A, .int (0 : Int32), .int x112, .int (1 : Int32)]) (cnt := 4) (tL_claim (l := l) hst hcs hex hlt hWS224 (hXS224 _ _ (hXS218 _ _ (hXS114 _ _ (hXS107 _ _ hl1A)))) h) rfl (wkGoodW (List.mem_of_getElem? (i := 48) rfl) (List.mem_of_getElem? (i := 49) rfl) (List.mem_of_getElem? (i := 3) rfl) hbL_law_L_claim gdL_claim) (Nat.le_trans (by decide : 57 + 1 ≤ 60) hd) (by decide) ⟨by decide, by decide, by decide +kernel⟩ rfl rfl (Nat.le_of_ble_eq_true rfl) hk238 hn239 dL_law_582 (fun v' S236 hp => ?_)
                          obtain ⟨v235, rfl, h, hWS236, hXS236⟩ := hp
                          refine wk_lconst C (v := 0) dL_law_585 (by decide) ?_
                          refine wk_lcmp C dL_law_586 rfl ?_
                          refine wk_if_le C (tgt := 592) dL_law_587 (by decide) (fun c240 => ?_) (fun c240 => ?_)
                          · rw [if_pos c240] at h
                            refine wk_ldc2 C (v := (-4000000000000000000)) (List.mem_of_getElem? (i := 30) rfl) dL_law_592 ?_
                            refine wk_lstore C (lv' := [some (.ref l0A), some (.ref l1A), some (.int l2I), some (.int l3I), some (.int v106), some (.int x112), some (.long v113), none, some (.long (-4000000000000000000 : Int64)), none]) dL_law_595 (by decide) rfl ?_
                            exact wk_forget (lv' := [some (.ref l0A), some (.ref l1A), some (.int l2I), some (.int l3I), some (.int v106), some (.int x112), some (.long v113), none, some (.long (-4000000000000000000 : Int64)), none]) (wkLs.le ⟨rfl, rfl, rfl, rfl, rfl, rfl, rfl, rfl, trivial⟩) (ih.2.2.2.1 _ _ hk238 hn239 _ _ _ _ _ _ _ _ _ hWS236 (wkExt.tr (wkExt.tr (wkExt.tr (wkExt.tr (wkExt.tr hE hXS107) hXS114) hXS218) hXS224) hXS236) hl0A (hXS236 _ _ (hXS224 _ _ (hXS218 _ _ (hXS114 _ _ (hXS107 _ _ hl1A))))) h)
                          · rw [if_neg c240] at h
                            refine wk_iconst C (v := 0) dL_law_590 (by decide) ?_
                            exact E _ _ _ _ _ _ hk238 hn239 dL_law_591 rfl ⟨(0 : Int32), rfl, h, hWS236, (wkExt.tr (wkExt.tr (wkExt.tr (wkExt.tr (wkExt.tr hE hXS107) hXS114) hXS218) hXS224) hXS236)⟩
    · intro c s hc hs l0A l1A l2I l3I l4I l5I l6J l8J S hW hE hl0A hl1A h
      have h : rL_law_b3 (wkXg X) F k n (rL_law_go (wkXg X) F k n k') c s l1A l2I l3I l4I l5I l6J l8J S Φ := by
        rw [rL_law_go, if_neg (show ¬ (3 : Nat) = 0 by decide), if_neg (show ¬ (3 : Nat) = 1 by decide), if_neg (show ¬ (3 : Nat) = 2 by decide), if_pos (rfl : (3 : Nat) = 3)] at h
        exact h
      unfold rL_law_b3 at h
      refine wk_iload C dL_law_597 rfl ?_
      refine wk_ldcw C (v := 40000) (List.mem_of_getElem? (i := 51) rfl) dL_law_599 ?_
      refine wk_idiv C dL_law_602 (by decide) rfl ?_
      refine wk_iconst C (v := 3) dL_law_603 (by decide) ?_
      refine wk_irem C dL_law_604 (by decide) rfl ?_
      refine wk_if_ne C (tgt := 636) dL_law_605 (by decide) (fun c241 => ?_) (fun c241 => ?_)
      · rw [if_neg c241] at h
        refine wk_aload_n C dL_law_636 rfl rfl ?_
        refine wk_iload C dL_law_637 rfl ?_
        refine wk_aload_n C dL_law_639 rfl rfl ?_
        refine wk_sipush C (v := 900) dL_law_640 (by decide) ?_
        refine wk_bipush C (v := 11) dL_law_643 (by decide) ?_
        refine wk_iload_n C dL_law_645 rfl rfl ?_
        refine wk_imul C dL_law_646 rfl ?_
        refine wk_iadd C dL_law_647 rfl ?_
        obtain ⟨k245, n246, hk245, hn246, h⟩ := h
        refine wk_callW C hR (As := [.ref l1A, .int l5I, .ref l0A, .int ((900 : Int32) + ((11 : Int32) * l3I))]) (cnt := 4) (tL_isOne (l := l) hst hcs harg hex hlt hW hl1A hl0A h) rfl (wkGoodW (List.mem_of_getElem? (i := 52) rfl) (List.mem_of_getElem? (i := 53) rfl) (List.mem_of_getElem? (i := 3) rfl) hbL_law_L_isOne gdL_isOne) (Nat.le_trans (by decide : 58 + 1 ≤ 60) hd) (by decide) ⟨by decide, by decide, by decide +kernel⟩ rfl rfl (Nat.le_of_ble_eq_true rfl) hk245 hn246 dL_law_648 (fun v' S243 hp => ?_)
        obtain ⟨v242, rfl, h, hWS243, hXS243⟩ := hp
        refine wk_if_ne C (tgt := 656) dL_law_651 (by decide) (fun c247 => ?_) (fun c247 => ?_)
        · rw [if_neg c247] at h
          obtain ⟨x248, ex248, h⟩ := wkLt_some h
          refine wk_iinc C (lv' := [some (.ref l0A), some (.ref l1A), some (.int l2I), some (.int x248), some (.int l4I), some (.int l5I), some (.long l6J), none, some (.long l8J), none]) dL_law_656 rfl (by rw [ex248]; rfl) (by decide) rfl ?_
          refine wk_goto C (tgt := 205) dL_law_659 (by decide) ?_
          exact wk_forget (lv' := [some (.ref l0A), some (.ref l1A), some (.int l2I), some (.int x248), none, none, none, none, none, none]) (wkLs.le ⟨rfl, rfl, rfl, rfl, trivial⟩) (ih.2.2.1 _ _ hk245 hn246 _ _ _ _ _ hWS243 (wkExt.tr hE hXS243) hl0A (hXS243 _ _ hl1A) h)
        · rw [if_pos c247] at h
          refine wk_iconst C (v := 0) dL_law_654 (by decide) ?_
          exact E _ _ _ _ _ _ hk245 hn246 dL_law_655 rfl ⟨(0 : Int32), rfl, h, hWS243, (wkExt.tr hE hXS243)⟩
      · rw [if_pos c241] at h
        refine wk_lload C dL_law_608 rfl ?_
        refine wk_lconst C (v := 0) dL_law_610 (by decide) ?_
        refine wk_lcmp C dL_law_611 rfl ?_
        refine wk_if_lt C (tgt := 636) dL_law_612 (by decide) (fun c249 => ?_) (fun c249 => ?_)
        · rw [if_pos c249] at h
          refine wk_aload_n C dL_law_636 rfl rfl ?_
          refine wk_iload C dL_law_637 rfl ?_
          refine wk_aload_n C dL_law_639 rfl rfl ?_
          refine wk_sipush C (v := 900) dL_law_640 (by decide) ?_
          refine wk_bipush C (v := 11) dL_law_643 (by decide) ?_
          refine wk_iload_n C dL_law_645 rfl rfl ?_
          refine wk_imul C dL_law_646 rfl ?_
          refine wk_iadd C dL_law_647 rfl ?_
          obtain ⟨k253, n254, hk253, hn254, h⟩ := h
          refine wk_callW C hR (As := [.ref l1A, .int l5I, .ref l0A, .int ((900 : Int32) + ((11 : Int32) * l3I))]) (cnt := 4) (tL_isOne (l := l) hst hcs harg hex hlt hW hl1A hl0A h) rfl (wkGoodW (List.mem_of_getElem? (i := 52) rfl) (List.mem_of_getElem? (i := 53) rfl) (List.mem_of_getElem? (i := 3) rfl) hbL_law_L_isOne gdL_isOne) (Nat.le_trans (by decide : 58 + 1 ≤ 60) hd) (by decide) ⟨by decide, by decide, by decide +kernel⟩ rfl rfl (Nat.le_of_ble_eq_true rfl) hk253 hn254 dL_law_648 (fun v' S251 hp => ?_)
          obtain ⟨v250, rfl, h, hWS251, hXS251⟩ := hp
          refine wk_if_ne C (tgt := 656) dL_law_651 (by decide) (fun c255 => ?_) (fun c255 => ?_)
          · rw [if_neg c255] at h
            obtain ⟨x256, ex256, h⟩ := wkLt_some h
            refine wk_iinc C (lv' := [some (.ref l0A), some (.ref l1A), some (.int l2I), some (.int x256), some (.int l4I), some (.int l5I), some (.long l6J), none, some (.long l8J), none]) dL_law_656 rfl (by rw [ex256]; rfl) (by decide) rfl ?_
            refine wk_goto C (tgt := 205) dL_law_659 (by decide) ?_
            exact wk_forget (lv' := [some (.ref l0A), some (.ref l1A), some (.int l2I), some (.int x256), none, none, none, none, none, none]) (wkLs.le ⟨rfl, rfl, rfl, rfl, trivial⟩) (ih.2.2.1 _ _ hk253 hn254 _ _ _ _ _ hWS251 (wkExt.tr hE hXS251) hl0A (hXS251 _ _ hl1A) h)
          · rw [if_pos c255] at h
            refine wk_iconst C (v := 0) dL_law_654 (by decide) ?_
            exact E _ _ _ _ _ _ hk253 hn254 dL_law_655 rfl ⟨(0 : Int32), rfl, h, hWS251, (wkExt.tr hE hXS251)⟩
        · rw [if_neg c249] at h
          refine wk_aload_n C dL_law_615 rfl rfl ?_
          obtain ⟨k260, n261, hk260, hn261, h⟩ := h
          refine wk_callT C hR (As := [.ref l1A]) (cnt := 1) (tL_undo (l := l) hcs hex hlt hW hl1A h) rfl (wkGoodW (List.mem_of_getElem? (i := 54) rfl) (List.mem_of_getElem? (i := 55) rfl) (List.mem_of_getElem? (i := 3) rfl) hbL_law_L_undo gdL_undo) (Nat.le_trans (by decide : 7 + 1 ≤ 60) hd) (by decide) ⟨by decide, by decide, by decide +kernel⟩ rfl rfl (Nat.le_of_ble_eq_true rfl) hk260 hn261 dL_law_616 (fun v' S258 hp => ?_)
          obtain ⟨v257, rfl, h, hWS258, hXS258⟩ := hp
          refine wk_lconst C (v := 0) dL_law_619 (by decide) ?_
          refine wk_lcmp C dL_law_620 rfl ?_
          refine wk_if_lt C (tgt := 634) dL_law_621 (by decide) (fun c262 => ?_) (fun c262 => ?_)
          · rw [if_pos c262] at h
            refine wk_iconst C (v := 0) dL_law_634 (by decide) ?_
            exact E _ _ _ _ _ _ hk260 hn261 dL_law_635 rfl ⟨(0 : Int32), rfl, h, hWS258, (wkExt.tr hE hXS258)⟩
          · rw [if_neg c262] at h
            refine wk_aload_n C dL_law_624 rfl rfl ?_
            obtain ⟨k266, n267, hk266, hn267, h⟩ := h
            refine wk_callW C hR (As := [.ref l1A]) (cnt := 1) (tL_checksum (l := l) hst hex hlt hWS258 (hXS258 _ _ hl1A) h) rfl (wkGoodW (List.mem_of_getElem? (i := 26) rfl) (List.mem_of_getElem? (i := 27) rfl) (List.mem_of_getElem? (i := 3) rfl) hbL_law_L_checksum gdL_checksum) (Nat.le_trans (by decide : 57 + 1 ≤ 60) hd) (by decide) ⟨by decide, by decide, by decide +kernel⟩ rfl rfl (Nat.le_of_ble_eq_true rfl) hk266 hn267 dL_law_625 (fun v' S264 hp => ?_)
            obtain ⟨v263, rfl, h, hWS264, hXS264⟩ := hp
            refine wk_lload C dL_law_628 rfl ?_
            refine wk_lcmp C dL_law_630 rfl ?_
            refine wk_if_eq C (tgt := 636) dL_law_631 (by decide) (fun c268 => ?_) (fun c268 => ?_)
            · rw [if_pos c268] at h
              refine wk_aload_n C dL_law_636 rfl rfl ?_
              refine wk_iload C dL_law_637 rfl ?_
              refine wk_aload_n C dL_law_639 rfl rfl ?_
              refine wk_sipush C (v := 900) dL_law_640 (by decide) ?_
              refine wk_bipush C (v := 11) dL_law_643 (by decide) ?_
              refine wk_iload_n C dL_law_645 rfl rfl ?_
              refine wk_imul C dL_law_646 rfl ?_
              refine wk_iadd C dL_law_647 rfl ?_
              obtain ⟨k272, n273, hk272, hn273, h⟩ := h
              refine wk_callW C hR (As := [.ref l1A, .int l5I, .ref l0A, .int ((900 : Int32) + ((11 : Int32) * l3I))]) (cnt := 4) (tL_isOne (l := l) hst hcs harg hex hlt hWS264 (hXS264 _ _ (hXS258 _ _ hl1A)) hl0A h) rfl (wkGoodW (List.mem_of_getElem? (i := 52) rfl) (List.mem_of_getElem? (i := 53) rfl) (List.mem_of_getElem? (i := 3) rfl) hbL_law_L_isOne gdL_isOne) (Nat.le_trans (by decide : 58 + 1 ≤ 60) hd) (by decide) ⟨by decide, by decide, by decide +kernel⟩ rfl rfl (Nat.le_of_ble_eq_true rfl) hk272 hn273 dL_law_648 (fun v' S270 hp => ?_)
              obtain ⟨v269, rfl, h, hWS270, hXS270⟩ := hp
              refine wk_if_ne C (tgt := 656) dL_law_651 (by decide) (fun c274 => ?_) (fun c274 => ?_)
              · rw [if_neg c274] at h
                obtain ⟨x275, ex275, h⟩ := wkLt_some h
                refine wk_iinc C (lv' := [some (.ref l0A), some (.ref l1A), some (.int l2I), some (.int x275), some (.int l4I), some (.int l5I), some (.long l6J), none, some (.long l8J), none]) dL_law_656 rfl (by rw [ex275]; rfl) (by decide) rfl ?_
                refine wk_goto C (tgt := 205) dL_law_659 (by decide) ?_
                exact wk_forget (lv' := [some (.ref l0A), some (.ref l1A), some (.int l2I), some (.int x275), none, none, none, none, none, none]) (wkLs.le ⟨rfl, rfl, rfl, rfl, trivial⟩) (ih.2.2.1 _ _ hk272 hn273 _ _ _ _ _ hWS270 (wkExt.tr (wkExt.tr (wkExt.tr hE hXS258) hXS264) hXS270) hl0A (hXS270 _ _ (hXS264 _ _ (hXS258 _ _ hl1A))) h)
              · rw [if_pos c274] at h
                refine wk_iconst C (v := 0) dL_law_654 (by decide) ?_
                exact E _ _ _ _ _ _ hk272 hn273 dL_law_655 rfl ⟨(0 : Int32), rfl, h, hWS270, (wkExt.tr (wkExt.tr (wkExt.tr hE hXS258) hXS264) hXS270)⟩
            · rw [if_neg c268] at h
              refine wk_iconst C (v := 0) dL_law_634 (by decide) ?_
              exact E _ _ _ _ _ _ hk266 hn267 dL_law_635 rfl ⟨(0 : Int32), rfl, h, hWS264, (wkExt.tr (wkExt.tr hE hXS258) hXS264)⟩
    · intro c s hc hs l0A l1A l2I l3I S hW hE hl0A hl1A h
      have h : rL_law_b4 (wkXg X) F k n (rL_law_go (wkXg X) F k n k') c s l1A l2I l3I S Φ := by
        rw [rL_law_go, if_neg (show ¬ (4 : Nat) = 0 by decide), if_neg (show ¬ (4 : Nat) = 1 by decide), if_neg (show ¬ (4 : Nat) = 2 by decide), if_neg (show ¬ (4 : Nat) = 3 by decide), if_pos (rfl : (4 : Nat) = 4)] at h
        exact h
      unfold rL_law_b4 at h
      refine wk_iload_n C dL_law_700 rfl rfl ?_
      refine wk_iload_n C dL_law_701 rfl rfl ?_
      refine wk_icmp_ge C (tgt := 750) dL_law_702 (by decide) (fun c276 => ?_) (fun c276 => ?_)
      · rw [if_pos c276] at h
        refine wk_aload_n C dL_law_750 rfl rfl ?_
        refine wk_aload_n C dL_law_751 rfl rfl ?_
        refine wk_sipush C (v := 1100) dL_law_752 (by decide) ?_
        obtain ⟨k280, n281, hk280, hn281, h⟩ := h
        refine wk_callW C hR (As := [.ref l1A, .ref l0A, .int (1100 : Int32)]) (cnt := 3) (tL_areOne (l := l) hst hcs harg hex hlt hW hl1A hl0A h) rfl (wkGoodW (List.mem_of_getElem? (i := 4) rfl) (List.mem_of_getElem? (i := 5) rfl) (List.mem_of_getElem? (i := 3) rfl) hbL_law_L_areOne gdL_areOne) (Nat.le_trans (by decide : 59 + 1 ≤ 60) hd) (by decide) ⟨by decide, by decide, by decide +kernel⟩ rfl rfl (Nat.le_of_ble_eq_true rfl) hk280 hn281 dL_law_755 (fun v' S278 hp => ?_)
        obtain ⟨v277, rfl, h, hWS278, hXS278⟩ := hp
        refine wk_if_eq C (tgt := 781) dL_law_758 (by decide) (fun c282 => ?_) (fun c282 => ?_)
        · rw [if_pos c282] at h
          refine wk_iconst C (v := 0) dL_law_781 (by decide) ?_
          exact E _ _ _ _ _ _ hk280 hn281 dL_law_782 rfl ⟨(0 : Int32), rfl, h, hWS278, (wkExt.tr hE hXS278)⟩
        · rw [if_neg c282] at h
          refine wk_aload_n C dL_law_761 rfl rfl ?_
          obtain ⟨k286, n287, hk286, hn287, h⟩ := h
          refine wk_callW C hR (As := [.ref l1A]) (cnt := 1) (tL_isAnew (l := l) hst hstr hcs hex hlt hmk hWS278 (hXS278 _ _ hl1A) h) rfl (wkGoodW (List.mem_of_getElem? (i := 21) rfl) (List.mem_of_getElem? (i := 22) rfl) (List.mem_of_getElem? (i := 3) rfl) hbL_law_L_isAnew gdL_isAnew) (Nat.le_trans (by decide : 58 + 1 ≤ 60) hd) (by decide) ⟨by decide, by decide, by decide +kernel⟩ rfl rfl (Nat.le_of_ble_eq_true rfl) hk286 hn287 dL_law_762 (fun v' S284 hp => ?_)
          obtain ⟨v283, rfl, h, hWS284, hXS284⟩ := hp
          refine wk_if_eq C (tgt := 781) dL_law_765 (by decide) (fun c288 => ?_) (fun c288 => ?_)
          · rw [if_pos c288] at h
            refine wk_iconst C (v := 0) dL_law_781 (by decide) ?_
            exact E _ _ _ _ _ _ hk286 hn287 dL_law_782 rfl ⟨(0 : Int32), rfl, h, hWS284, (wkExt.tr (wkExt.tr hE hXS278) hXS284)⟩
          · rw [if_neg c288] at h
            refine wk_aload_n C dL_law_768 rfl rfl ?_
            obtain ⟨k292, n293, hk292, hn293, h⟩ := h
            refine wk_callW C hR (As := [.ref l1A]) (cnt := 1) (tL_isSound (l := l) hst hex hlt hWS284 (hXS284 _ _ (hXS278 _ _ hl1A)) h) rfl (wkGoodW (List.mem_of_getElem? (i := 23) rfl) (List.mem_of_getElem? (i := 24) rfl) (List.mem_of_getElem? (i := 3) rfl) hbL_law_L_isSound gdL_isSound) (Nat.le_trans (by decide : 57 + 1 ≤ 60) hd) (by decide) ⟨by decide, by decide, by decide +kernel⟩ rfl rfl (Nat.le_of_ble_eq_true rfl) hk292 hn293 dL_law_769 (fun v' S290 hp => ?_)
            obtain ⟨v289, rfl, h, hWS290, hXS290⟩ := hp
            refine wk_lconst C (v := 1) dL_law_772 (by decide) ?_
            refine wk_lcmp C dL_law_773 rfl ?_
            refine wk_if_ne C (tgt := 781) dL_law_774 (by decide) (fun c294 => ?_) (fun c294 => ?_)
            · rw [if_neg c294] at h
              refine wk_iconst C (v := 0) dL_law_781 (by decide) ?_
              exact E _ _ _ _ _ _ hk292 hn293 dL_law_782 rfl ⟨(0 : Int32), rfl, h, hWS290, (wkExt.tr (wkExt.tr (wkExt.tr hE hXS278) hXS284) hXS290)⟩
            · rw [if_pos c294] at h
              refine wk_iconst C (v := 1) dL_law_777 (by decide) ?_
              refine wk_goto C (tgt := 782) dL_law_778 (by decide) ?_
              exact E _ _ _ _ _ _ hk292 hn293 dL_law_782 rfl ⟨(1 : Int32), rfl, h, hWS290, (wkExt.tr (wkExt.tr (wkExt.tr hE hXS278) hXS284) hXS290)⟩
      · rw [if_neg c276] at h
        refine wk_aload_n C dL_law_705 rfl rfl ?_
        refine wk_iload_n C dL_law_706 rfl rfl ?_
        refine wk_aload_n C dL_law_707 rfl rfl ?_
        refine wk_iload_n C dL_law_708 rfl rfl ?_
        obtain ⟨k298, n299, hk298, hn299, h⟩ := h
        refine wk_callT C hR (As := [.ref l1A, .int l3I]) (cnt := 2) (tL_kindOf (l := l) hstr hcs hex hlt hW hl1A h) rfl (wkGoodW (List.mem_of_getElem? (i := 33) rfl) (List.mem_of_getElem? (i := 34) rfl) (List.mem_of_getElem? (i := 3) rfl) hbL_law_L_kindOf gdL_kindOf) (Nat.le_trans (by decide : 8 + 1 ≤ 60) hd) (by decide) ⟨by decide, by decide, by decide +kernel⟩ rfl rfl (Nat.le_of_ble_eq_true rfl) hk298 hn299 dL_law_709 (fun v' S296 hp => ?_)
        obtain ⟨v295, rfl, h, hWS296, hXS296⟩ := hp
        refine wk_ldc2 C (v := 102) (List.mem_of_getElem? (i := 56) rfl) dL_law_712 ?_
        refine wk_lcmp C dL_law_715 rfl ?_
        refine wk_if_ne C (tgt := 724) dL_law_716 (by decide) (fun c300 => ?_) (fun c300 => ?_)
        · rw [if_neg c300] at h
          refine wk_bipush C (v := 102) dL_law_724 (by decide) ?_
          obtain ⟨k304, n305, hk304, hn305, h⟩ := h
          refine wk_callW C hR (As := [.ref l1A, .int l3I, .int (102 : Int32)]) (cnt := 3) (tL_isCarried (l := l) hst hstr hcs hex hlt hWS296 (hXS296 _ _ hl1A) h) rfl (wkGoodW (List.mem_of_getElem? (i := 57) rfl) (List.mem_of_getElem? (i := 58) rfl) (List.mem_of_getElem? (i := 3) rfl) hbL_law_L_isCarried gdL_isCarried) (Nat.le_trans (by decide : 58 + 1 ≤ 60) hd) (by decide) ⟨by decide, by decide, by decide +kernel⟩ rfl rfl (Nat.le_of_ble_eq_true rfl) hk304 hn305 dL_law_726 (fun v' S302 hp => ?_)
          obtain ⟨v301, rfl, h, hWS302, hXS302⟩ := hp
          refine wk_if_eq C (tgt := 742) dL_law_729 (by decide) (fun c306 => ?_) (fun c306 => ?_)
          · rw [if_pos c306] at h
            refine wk_iconst C (v := 0) dL_law_742 (by decide) ?_
            exact E _ _ _ _ _ _ hk304 hn305 dL_law_743 rfl ⟨(0 : Int32), rfl, h, hWS302, (wkExt.tr (wkExt.tr hE hXS296) hXS302)⟩
          · rw [if_neg c306] at h
            refine wk_aload_n C dL_law_732 rfl rfl ?_
            refine wk_iload_n C dL_law_733 rfl rfl ?_
            refine wk_bipush C (v := 115) dL_law_734 (by decide) ?_
            obtain ⟨k310, n311, hk310, hn311, h⟩ := h
            refine wk_callW C hR (As := [.ref l1A, .int l3I, .int (115 : Int32)]) (cnt := 3) (tL_isCarried (l := l) hst hstr hcs hex hlt hWS302 (hXS302 _ _ (hXS296 _ _ hl1A)) h) rfl (wkGoodW (List.mem_of_getElem? (i := 57) rfl) (List.mem_of_getElem? (i := 58) rfl) (List.mem_of_getElem? (i := 3) rfl) hbL_law_L_isCarried gdL_isCarried) (Nat.le_trans (by decide : 58 + 1 ≤ 60) hd) (by decide) ⟨by decide, by decide, by decide +kernel⟩ rfl rfl (Nat.le_of_ble_eq_true rfl) hk310 hn311 dL_law_736 (fun v' S308 hp => ?_)
            obtain ⟨v307, rfl, h, hWS308, hXS308⟩ := hp
            refine wk_if_ne C (tgt := 744) dL_law_739 (by decide) (fun c312 => ?_) (fun c312 => ?_)
            · rw [if_neg c312] at h
              obtain ⟨x313, ex313, h⟩ := wkLt_some h
              refine wk_iinc C (lv' := [some (.ref l0A), some (.ref l1A), some (.int l2I), some (.int x313), none, none, none, none, none, none]) dL_law_744 rfl (by rw [ex313]; rfl) (by decide) rfl ?_
              refine wk_goto C (tgt := 700) dL_law_747 (by decide) ?_
              exact wk_forget (lv' := [some (.ref l0A), some (.ref l1A), some (.int l2I), some (.int x313), none, none, none, none, none, none]) (wkLs.le ⟨rfl, rfl, rfl, rfl, trivial⟩) (ih.2.2.2.2 _ _ hk310 hn311 _ _ _ _ _ hWS308 (wkExt.tr (wkExt.tr (wkExt.tr hE hXS296) hXS302) hXS308) hl0A (hXS308 _ _ (hXS302 _ _ (hXS296 _ _ hl1A))) h)
            · rw [if_pos c312] at h
              refine wk_iconst C (v := 0) dL_law_742 (by decide) ?_
              exact E _ _ _ _ _ _ hk310 hn311 dL_law_743 rfl ⟨(0 : Int32), rfl, h, hWS308, (wkExt.tr (wkExt.tr (wkExt.tr hE hXS296) hXS302) hXS308)⟩
        · rw [if_pos c300] at h
          refine wk_bipush C (v := 108) dL_law_719 (by decide) ?_
          refine wk_goto C (tgt := 726) dL_law_721 (by decide) ?_
          obtain ⟨k317, n318, hk317, hn318, h⟩ := h
          refine wk_callW C hR (As := [.ref l1A, .int l3I, .int (108 : Int32)]) (cnt := 3) (tL_isCarried (l := l) hst hstr hcs hex hlt hWS296 (hXS296 _ _ hl1A) h) rfl (wkGoodW (List.mem_of_getElem? (i := 57) rfl) (List.mem_of_getElem? (i := 58) rfl) (List.mem_of_getElem? (i := 3) rfl) hbL_law_L_isCarried gdL_isCarried) (Nat.le_trans (by decide : 58 + 1 ≤ 60) hd) (by decide) ⟨by decide, by decide, by decide +kernel⟩ rfl rfl (Nat.le_of_ble_eq_true rfl) hk317 hn318 dL_law_726 (fun v' S315 hp => ?_)
          obtain ⟨v314, rfl, h, hWS315, hXS315⟩ := hp
          refine wk_if_eq C (tgt := 742) dL_law_729 (by decide) (fun c319 => ?_) (fun c319 => ?_)
          · rw [if_pos c319] at h
            refine wk_iconst C (v := 0) dL_law_742 (by decide) ?_
            exact E _ _ _ _ _ _ hk317 hn318 dL_law_743 rfl ⟨(0 : Int32), rfl, h, hWS315, (wkExt.tr (wkExt.tr hE hXS296) hXS315)⟩
          · rw [if_neg c319] at h
            refine wk_aload_n C dL_law_732 rfl rfl ?_
            refine wk_iload_n C dL_law_733 rfl rfl ?_
            refine wk_bipush C (v := 115) dL_law_734 (by decide) ?_
            obtain ⟨k323, n324, hk323, hn324, h⟩ := h
            refine wk_callW C hR (As := [.ref l1A, .int l3I, .int (115 : Int32)]) (cnt := 3) (tL_isCarried (l := l) hst hstr hcs hex hlt hWS315 (hXS315 _ _ (hXS296 _ _ hl1A)) h) rfl (wkGoodW (List.mem_of_getElem? (i := 57) rfl) (List.mem_of_getElem? (i := 58) rfl) (List.mem_of_getElem? (i := 3) rfl) hbL_law_L_isCarried gdL_isCarried) (Nat.le_trans (by decide : 58 + 1 ≤ 60) hd) (by decide) ⟨by decide, by decide, by decide +kernel⟩ rfl rfl (Nat.le_of_ble_eq_true rfl) hk323 hn324 dL_law_736 (fun v' S321 hp => ?_)
            obtain ⟨v320, rfl, h, hWS321, hXS321⟩ := hp
            refine wk_if_ne C (tgt := 744) dL_law_739 (by decide) (fun c325 => ?_) (fun c325 => ?_)
            · rw [if_neg c325] at h
              obtain ⟨x326, ex326, h⟩ := wkLt_some h
              refine wk_iinc C (lv' := [some (.ref l0A), some (.ref l1A), some (.int l2I), some (.int x326), none, none, none, none, none, none]) dL_law_744 rfl (by rw [ex326]; rfl) (by decide) rfl ?_
              refine wk_goto C (tgt := 700) dL_law_747 (by decide) ?_
              exact wk_forget (lv' := [some (.ref l0A), some (.ref l1A), some (.int l2I), some (.int x326), none, none, none, none, none, none]) (wkLs.le ⟨rfl, rfl, rfl, rfl, trivial⟩) (ih.2.2.2.2 _ _ hk323 hn324 _ _ _ _ _ hWS321 (wkExt.tr (wkExt.tr (wkExt.tr hE hXS296) hXS315) hXS321) hl0A (hXS321 _ _ (hXS315 _ _ (hXS296 _ _ hl1A))) h)
            · rw [if_pos c325] at h
              refine wk_iconst C (v := 0) dL_law_742 (by decide) ?_
              exact E _ _ _ _ _ _ hk323 hn324 dL_law_743 rfl ⟨(0 : Int32), rfl, h, hWS321, (wkExt.tr (wkExt.tr (wkExt.tr hE hXS296) hXS315) hXS321)⟩
set_option maxHeartbeats 4000000 in
set_option maxRecDepth 100000 in
theorem tL_law {l : Launch} {X : wkX} {d : Nat} {F : Nat} {k n : Nat}  {S : wPS} {l0A : Nat} {Φ : (Int32 → wPS → Prop)} (hst : wkSta (wkXg X)) (hstr : wkStr (wkXg X)) (hstrL : wkStrL (wkXg X)) (hcs : wkCast (wkXg X)) (harg : wkArg (wkXg X)) (hex : wkExA (wkXg X)) (hlt : l.stackTraces = false) (hmk : wkMk (wkXg X)) (hW : wkWF S) (hl0A : l0A = (wkXg X).1 8) (h : rL_law (wkXg X) F k n  S Φ) (C : wkC X cL_law RL 10 wvL_law) (hR : wkRm X d k n) (hd : 60 ≤ d) (E : wkEnd l X cL_law 10 (some .boolean) k n (fun v' S'' => ∃ v : Int32, v' = some (.int v) ∧ Φ v S'' ∧ wkWF S'' ∧ wkExt S S'')) : wkGo l X 10 0 0 0 S [some (.ref l0A), none, none, none, none, none, none, none, none, none] [] := by
  have hE : wkExt S S := wkExt.rf
  have ih := tL_law_go (F := F) hst hstr hstrL hcs harg hex hlt hmk C hR hd E F
  have h : rL_law_s (wkXg X) F k n (rL_law_go (wkXg X) F k n F)  S Φ := h
  unfold rL_law_s at h
  obtain ⟨h327b, h327c, h⟩ := h
  refine wk_newO C hR huL_law_11 (List.mem_of_getElem? (i := 59) rfl) (List.mem_of_getElem? (i := 60) rfl) (List.mem_of_getElem? (i := 61) rfl) rfl tyX11_ok (by decide) (fun cy S a b => wNw_11 cy S a b) h327b h327c dL_law_0 (fun q328 h327e => ?_)
  obtain ⟨S329, eS329, h⟩ := wkLt_some (h q328 h327e)
  rw [← eS329]
  obtain ⟨hXS329, hIS329⟩ := wkExt_newO eS329 h327e
  refine wk_dup C dL_law_3 rfl ?_
  obtain ⟨k332, n333, hk332, hn333, h⟩ := h
  refine wk_callIL C hR (y := yX11_init) (As := []) (cnt := 0) (tX11_init (l := l) hmk trivial hIS329 h) rfl (fun w h => ⟨hbL_law_X11_init w h, gdX11_init w h⟩) (List.mem_of_getElem? (i := 62) rfl) rfl (List.mem_of_getElem? (i := 63) rfl) (List.mem_of_getElem? (i := 61) rfl) (Nat.le_trans (by decide : 3 + 1 ≤ 60) hd) (by decide) ⟨by decide, by decide, by decide +kernel⟩ rfl rfl (Nat.le_of_ble_eq_true rfl) hk332 hn333 dL_law_4 (fun v' S331 hp => ?_)
  obtain ⟨v330, rfl, h, -, hXS331⟩ := hp
  obtain ⟨hWS331, h⟩ := h
  refine wk_astore_n C (lv' := [some (.ref l0A), some (.ref q328), none, none, none, none, none, none, none, none]) dL_law_7 rfl (by decide) rfl ?_
  refine wk_iconst C (v := 2) dL_law_8 (by decide) ?_
  refine wk_aload_n C dL_law_9 rfl rfl ?_
  refine wk_iconst C (v := 0) dL_law_10 (by decide) ?_
  refine wk_iconst C (v := 4) dL_law_11 (by decide) ?_
  refine wk_callW C hR (As := [.ref l0A, .int (0 : Int32), .int (4 : Int32)]) (cnt := 3) (tL_drawn (l := l) harg hWS331 hl0A h) rfl (wkGoodW (List.mem_of_getElem? (i := 8) rfl) (List.mem_of_getElem? (i := 9) rfl) (List.mem_of_getElem? (i := 3) rfl) hbL_law_L_drawn gdL_drawn) (Nat.le_trans (by decide : 1 + 1 ≤ 60) hd) (by decide) ⟨by decide, by decide, by decide +kernel⟩ rfl rfl (Nat.le_of_ble_eq_true rfl) hk332 hn333 dL_law_12 (fun v' S335 hp => ?_)
  obtain ⟨v334, rfl, h, hWS335, hXS335⟩ := hp
  refine wk_iadd C dL_law_15 rfl ?_
  obtain ⟨x339, ex339, h⟩ := wkLt_some h
  refine wk_topi ex339 ?_
  refine wk_istore_n C (lv' := [some (.ref l0A), some (.ref q328), some (.int x339), none, none, none, none, none, none, none]) dL_law_16 rfl (by decide) rfl ?_
  refine wk_iconst C (v := 0) dL_law_17 (by decide) ?_
  refine wk_istore_n C (lv' := [some (.ref l0A), some (.ref q328), some (.int x339), some (.int (0 : Int32)), none, none, none, none, none, none]) dL_law_18 rfl (by decide) rfl ?_
  exact wk_forget (lv' := [some (.ref l0A), some (.ref q328), some (.int x339), some (.int (0 : Int32)), none, none, none, none, none, none]) (wkLs.le ⟨rfl, rfl, rfl, rfl, trivial⟩) (ih.1 _ _ hk332 hn333 _ _ _ _ _ hWS335 (wkExt.tr (wkExt.tr (wkExt.tr hE hXS329) hXS331) hXS335) hl0A (hXS335 _ _ (hXS331 _ _ hIS329)) h)
