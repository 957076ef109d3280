def wvL_isCarried : List Cond := .code yL_isCarried cL_isCarried 9 (some .boolean) :: (([.methodLink RL 221 yL_carry, .static yL_carry, .initialized RL, .methodLink RL 175 yL_answer, .static yL_answer, .methodLink RL 198 yL_entries, .static yL_entries, .methodLink RL 224 yL_cameFrom, .static yL_cameFrom, .methodLink RL 226 yL_bring, .static yL_bring, .constantLong RL 177 (121), .methodLink RL 187 yL_check, .static yL_check, .constantLong RL 22 (-4000000000000000002), .constantLong RL 32 (-4000000000000000003), .constantLong RL 34 (-4000000000000000004)] : List Cond) ++ (([]) ++ (wvL_carry ++ (wvL_answer ++ (wvL_entries ++ (wvL_cameFrom ++ (wvL_bring ++ (wvL_check))))))))
theorem hbL_isCarried_L_carry : ∀ w ∈ wvL_carry, w ∈ wvL_isCarried := fun w h => List.mem_cons_of_mem _ (List.mem_append_right _ (List.mem_append_right _ (List.mem_append_left _ h)))
theorem hbL_isCarried_L_answer : ∀ w ∈ wvL_answer, w ∈ wvL_isCarried := fun w h => List.mem_cons_of_mem _ (List.mem_append_right _ (List.mem_append_right _ (List.mem_append_right _ (List.mem_append_left _ h))))
theorem hbL_isCarried_L_entries : ∀ w ∈ wvL_entries, w ∈ wvL_isCarried := fun w h => List.mem_cons_of_mem _ (List.mem_append_right _ (List.mem_append_right _ (List.mem_append_right _ (List.mem_append_right _ (List.mem_append_left _ h)))))
theorem hbL_isCarried_L_cameFrom : ∀ w ∈ wvL_cameFrom, w ∈ wvL_isCarried := fun w h => List.mem_cons_of_mem _ (List.mem_append_right _ (List.mem_append_right _ (List.mem_append_right _ (List.mem_append_right _ (List.mem_append_right _ (List.mem_append_left _ h))))))
theorem hbL_isCarried_L_bring : ∀ w ∈ wvL_bring, w ∈ wvL_isCarried := fun w h => List.mem_cons_of_mem _ (List.mem_append_right _ (List.mem_append_right _ (List.mem_append_right _ (List.mem_append_right _ (List.mem_append_right _ (List.mem_append_right _ (List.mem_append_left _ h)))))))
theorem hbL_isCarried_L_check : ∀ w ∈ wvL_check, w ∈ wvL_isCarried := fun w h => List.mem_cons_of_mem _ (List.mem_append_right _ (List.mem_append_right _ (List.mem_append_right _ (List.mem_append_right _ (List.mem_append_right _ (List.mem_append_right _ (List.mem_append_right _ h)))))))
theorem gdL_isCarried : ∀ w ∈ wvL_isCarried, wkGd w := wkGdC rfl (wkGdA (wkGdL (by decide +kernel)) (wkGdA (fun _ h => absurd h List.not_mem_nil) (wkGdA gdL_carry (wkGdA gdL_answer (wkGdA gdL_entries (wkGdA gdL_cameFrom (wkGdA gdL_bring gdL_check)))))))
def rL_isCarried (G : wkG) (F : Nat) (k n : Nat) (l0A : Nat) (l1I : Int32) (l2I : Int32) (S : wPS) (Φ : (Int32 → wPS → Prop)) : Prop :=
  ∃ k4 n5 : Nat, 0 + k4 ≤ k ∧ 0 + n5 ≤ n ∧ rL_carry G F k4 n5 l0A l1I l2I S fun v1 S2 => if 0 ≤ (lg_cmp v1 (0 : Int64)) then (∃ k10 n11 : Nat, (0 + k4) + k10 ≤ k ∧ (0 + n5) + n11 ≤ n ∧ rL_answer G F k10 n11 l0A l1I S2 fun v7 S8 => rL_entries G F l0A S8 fun v12 S13 => if (lg_cmp v1 (v12 - (1 : Int64))) = 0 then (∃ k21 n22 : Nat, ((0 + k4) + k10) + k21 ≤ k ∧ ((0 + n5) + n11) + n22 ≤ n ∧ rL_cameFrom G F k21 n22 l0A (Int64.toInt32 v1) S13 fun v18 S19 => if (lg_cmp v18 (Int32.toInt64 l1I)) = 0 then (∃ k27 n28 : Nat, (((0 + k4) + k10) + k21) + k27 ≤ k ∧ (((0 + n5) + n11) + n22) + n28 ≤ n ∧ rL_answer G F k27 n28 l0A (Int64.toInt32 v1) S19 fun v24 S25 => if (lg_cmp v24 v7) = 0 then (∃ k33 n34 : Nat, ((((0 + k4) + k10) + k21) + k27) + k33 ≤ k ∧ ((((0 + n5) + n11) + n22) + n28) + n34 ≤ n ∧ rL_bring G F k33 n34 l0A (Int64.toInt32 v1) S25 fun v30 S31 => if 0 ≤ (lg_cmp v30 (0 : Int64)) then (if (lg_cmp v7 (121 : Int64)) = 0 then (∃ k46 n47 : Nat, (((((0 + k4) + k10) + k21) + k27) + k33) + k46 ≤ k ∧ (((((0 + n5) + n11) + n22) + n28) + n34) + n47 ≤ n ∧ rL_check G F k46 n47 l0A l1I (1 : Int32) S31 fun v43 S44 => if (lg_cmp v43 (0 : Int64)) = 0 then (Φ (1 : Int32) S44) else (Φ (0 : Int32) S44)) else (∃ k40 n41 : Nat, (((((0 + k4) + k10) + k21) + k27) + k33) + k40 ≤ k ∧ (((((0 + n5) + n11) + n22) + n28) + n34) + n41 ≤ n ∧ rL_check G F k40 n41 l0A l1I (0 : Int32) S31 fun v37 S38 => if (lg_cmp v37 (0 : Int64)) = 0 then (Φ (1 : Int32) S38) else (Φ (0 : Int32) S38))) else (if (lg_cmp v30 (-4000000000000000002 : Int64)) = 0 then (if l2I = (102 : Int32) then (if 0 ≤ (lg_cmp v7 (0 : Int64)) then (Φ (0 : Int32) S31) else (Φ (1 : Int32) S31)) else (Φ (1 : Int32) S31)) else (Φ (0 : Int32) S31))) else (Φ (0 : Int32) S25)) else (Φ (0 : Int32) S19)) else (Φ (0 : Int32) S13)) else (if (lg_cmp v1 (-4000000000000000003 : Int64)) = 0 then (Φ (1 : Int32) S2) else (if (lg_cmp v1 (-4000000000000000004 : Int64)) = 0 then (Φ (1 : Int32) S2) else (Φ (0 : Int32) S2)))
set_option maxHeartbeats 4000000 in
set_option maxRecDepth 100000 in
theorem tL_isCarried {l : Launch} {g : wkG} {F : Nat} {k n : Nat}  {S : wPS} {l0A : Nat} {l1I : Int32} {l2I : Int32} {Φ : (Int32 → wPS → Prop)} (hst : wkSta g) (hstr : wkStr g) (hcs : wkCast g) (hex : wkExA g) (hlt : l.stackTraces = false) (hW : wkWF S) (hl0A : wkIs S l0A 11) (h : rL_isCarried g F k n l0A l1I l2I S Φ) : wkMet l g yL_isCarried wvL_isCarried 58 k n [.ref l0A, .int l1I, .int l2I] S (fun v' S'' => ∃ v : Int32, v' = some (.int v) ∧ Φ v S'' ∧ wkWF S'' ∧ wkExt S S'') := by
  refine wkMet_of (ret := (some .boolean)) (by decide) rfl (Nat.le_of_ble_eq_true rfl) (fun X hg C hR E => ?_)
  subst hg
  have hE : wkExt S S := wkExt.rf
  have hd : 58 ≤ 58 := Nat.le_refl _
  show wkGo l X 9 0 0 0 S [some (.ref l0A), some (.int l1I), some (.int l2I), none, none, none, none, none, none] []
  unfold rL_isCarried at h
  refine wk_aload_n C dL_isCarried_0 rfl rfl ?_
  refine wk_iload_n C dL_isCarried_1 rfl rfl ?_
  refine wk_iload_n C dL_isCarried_2 rfl rfl ?_
  obtain ⟨k4, n5, hk4, hn5, h⟩ := h
  refine wk_callT C hR (As := [.ref l0A, .int l1I, .int l2I]) (cnt := 3) (tL_carry (l := l) hst hstr hcs hex hlt hW hl0A h) rfl (wkGoodW (List.mem_of_getElem? (i := 1) rfl) (List.mem_of_getElem? (i := 2) rfl) (List.mem_of_getElem? (i := 3) rfl) hbL_isCarried_L_carry gdL_carry) (Nat.le_trans (by decide : 57 + 1 ≤ 58) hd) (by decide) ⟨by decide, by decide, by decide +kernel⟩ rfl rfl (Nat.le_of_ble_eq_true rfl) hk4 hn5 dL_isCarried_3 (fun v' S2 hp => ?_)
  obtain ⟨v1, rfl, h, hWS2, hXS2⟩ := hp
  refine wk_lstore_n C (lv' := [some (.ref l0A), some (.int l1I), some (.int l2I), some (.long v1), none, none, none, none, none]) dL_isCarried_6 rfl (by decide) rfl ?_
  refine wk_lload_n C dL_isCarried_7 rfl rfl ?_
  refine wk_lconst C (v := 0) dL_isCarried_8 (by decide) ?_
  refine wk_lcmp C dL_isCarried_9 rfl ?_
  refine wk_if_ge C (tgt := 35) dL_isCarried_10 (by decide) (fun c6 => ?_) (fun c6 => ?_)
  · rw [if_pos c6] at h
    refine wk_aload_n C dL_isCarried_35 rfl rfl ?_
    refine wk_iload_n C dL_isCarried_36 rfl rfl ?_
    obtain ⟨k10, n11, hk10, hn11, h⟩ := h
    refine wk_callT C hR (As := [.ref l0A, .int l1I]) (cnt := 2) (tL_answer (l := l) hst hcs hex hlt hWS2 (hXS2 _ _ hl0A) h) rfl (wkGoodW (List.mem_of_getElem? (i := 4) rfl) (List.mem_of_getElem? (i := 5) rfl) (List.mem_of_getElem? (i := 3) rfl) hbL_isCarried_L_answer gdL_answer) (Nat.le_trans (by decide : 57 + 1 ≤ 58) hd) (by decide) ⟨by decide, by decide, by decide +kernel⟩ rfl rfl (Nat.le_of_ble_eq_true rfl) hk10 hn11 dL_isCarried_37 (fun v' S8 hp => ?_)
    obtain ⟨v7, rfl, h, hWS8, hXS8⟩ := hp
    refine wk_lstore C (lv' := [some (.ref l0A), some (.int l1I), some (.int l2I), some (.long v1), none, some (.long v7), none, none, none]) dL_isCarried_40 (by decide) rfl ?_
    refine wk_lload_n C dL_isCarried_42 rfl rfl ?_
    refine wk_aload_n C dL_isCarried_43 rfl rfl ?_
    refine wk_callW C hR (As := [.ref l0A]) (cnt := 1) (tL_entries (l := l) hWS8 (hXS8 _ _ (hXS2 _ _ hl0A)) h) rfl (wkGoodW (List.mem_of_getElem? (i := 6) rfl) (List.mem_of_getElem? (i := 7) rfl) (List.mem_of_getElem? (i := 3) rfl) hbL_isCarried_L_entries gdL_entries) (Nat.le_trans (by decide : 1 + 1 ≤ 58) hd) (by decide) ⟨by decide, by decide, by decide +kernel⟩ rfl rfl (Nat.le_of_ble_eq_true rfl) hk10 hn11 dL_isCarried_44 (fun v' S13 hp => ?_)
    obtain ⟨v12, rfl, h, hWS13, hXS13⟩ := hp
    refine wk_lconst C (v := 1) dL_isCarried_47 (by decide) ?_
    refine wk_lsub C dL_isCarried_48 rfl ?_
    refine wk_lcmp C dL_isCarried_49 rfl ?_
    refine wk_if_ne C (tgt := 77) dL_isCarried_50 (by decide) (fun c17 => ?_) (fun c17 => ?_)
    · rw [if_neg c17] at h
      refine wk_iconst C (v := 0) dL_isCarried_77 (by decide) ?_
      exact E _ _ _ _ _ _ hk10 hn11 dL_isCarried_78 rfl ⟨(0 : Int32), rfl, h, hWS13, (wkExt.tr (wkExt.tr (wkExt.tr hE hXS2) hXS8) hXS13)⟩
    · rw [if_pos c17] at h
      refine wk_aload_n C dL_isCarried_53 rfl rfl ?_
      refine wk_lload_n C dL_isCarried_54 rfl rfl ?_
      refine wk_l2i C dL_isCarried_55 rfl ?_
      obtain ⟨k21, n22, hk21, hn22, h⟩ := h
      refine wk_callT C hR (As := [.ref l0A, .int (Int64.toInt32 v1)]) (cnt := 2) (tL_cameFrom (l := l) hcs hex hlt hWS13 (hXS13 _ _ (hXS8 _ _ (hXS2 _ _ hl0A))) h) rfl (wkGoodW (List.mem_of_getElem? (i := 8) rfl) (List.mem_of_getElem? (i := 9) rfl) (List.mem_of_getElem? (i := 3) rfl) hbL_isCarried_L_cameFrom gdL_cameFrom) (Nat.le_trans (by decide : 8 + 1 ≤ 58) hd) (by decide) ⟨by decide, by decide, by decide +kernel⟩ rfl rfl (Nat.le_of_ble_eq_true rfl) hk21 hn22 dL_isCarried_56 (fun v' S19 hp => ?_)
      obtain ⟨v18, rfl, h, hWS19, hXS19⟩ := hp
      refine wk_iload_n C dL_isCarried_59 rfl rfl ?_
      refine wk_i2l C dL_isCarried_60 rfl ?_
      refine wk_lcmp C dL_isCarried_61 rfl ?_
      refine wk_if_ne C (tgt := 77) dL_isCarried_62 (by decide) (fun c23 => ?_) (fun c23 => ?_)
      · rw [if_neg c23] at h
        refine wk_iconst C (v := 0) dL_isCarried_77 (by decide) ?_
        exact E _ _ _ _ _ _ hk21 hn22 dL_isCarried_78 rfl ⟨(0 : Int32), rfl, h, hWS19, (wkExt.tr (wkExt.tr (wkExt.tr (wkExt.tr hE hXS2) hXS8) hXS13) hXS19)⟩
      · rw [if_pos c23] at h
        refine wk_aload_n C dL_isCarried_65 rfl rfl ?_
        refine wk_lload_n C dL_isCarried_66 rfl rfl ?_
        refine wk_l2i C dL_isCarried_67 rfl ?_
        obtain ⟨k27, n28, hk27, hn28, h⟩ := h
        refine wk_callT C hR (As := [.ref l0A, .int (Int64.toInt32 v1)]) (cnt := 2) (tL_answer (l := l) hst hcs hex hlt hWS19 (hXS19 _ _ (hXS13 _ _ (hXS8 _ _ (hXS2 _ _ hl0A)))) h) rfl (wkGoodW (List.mem_of_getElem? (i := 4) rfl) (List.mem_of_getElem? (i := 5) rfl) (List.mem_of_getElem? (i := 3) rfl) hbL_isCarried_L_answer gdL_answer) (Nat.le_trans (by decide : 57 + 1 ≤ 58) hd) (by decide) ⟨by decide, by decide, by decide +kernel⟩ rfl rfl (Nat.le_of_ble_eq_true rfl) hk27 hn28 dL_isCarried_68 (fun v' S25 hp => ?_)
        obtain ⟨v24, rfl, h, hWS25, hXS25⟩ := hp
        refine wk_lload C dL_isCarried_71 rfl ?_
        refine wk_lcmp C dL_isCarried_73 rfl ?_
        refine wk_if_eq C (tgt := 79) dL_isCarried_74 (by decide) (fun c29 => ?_) (fun c29 => ?_)
        · rw [if_pos c29] at h
          refine wk_aload_n C dL_isCarried_79 rfl rfl ?_
          refine wk_lload_n C dL_isCarried_80 rfl rfl ?_
          refine wk_l2i C dL_isCarried_81 rfl ?_
          obtain ⟨k33, n34, hk33, hn34, h⟩ := h
          refine wk_callT C hR (As := [.ref l0A, .int (Int64.toInt32 v1)]) (cnt := 2) (tL_bring (l := l) hst hcs hex hlt hWS25 (hXS25 _ _ (hXS19 _ _ (hXS13 _ _ (hXS8 _ _ (hXS2 _ _ hl0A))))) h) rfl (wkGoodW (List.mem_of_getElem? (i := 10) rfl) (List.mem_of_getElem? (i := 11) rfl) (List.mem_of_getElem? (i := 3) rfl) hbL_isCarried_L_bring gdL_bring) (Nat.le_trans (by decide : 57 + 1 ≤ 58) hd) (by decide) ⟨by decide, by decide, by decide +kernel⟩ rfl rfl (Nat.le_of_ble_eq_true rfl) hk33 hn34 dL_isCarried_82 (fun v' S31 hp => ?_)
          obtain ⟨v30, rfl, h, hWS31, hXS31⟩ := hp
          refine wk_lstore C (lv' := [some (.ref l0A), some (.int l1I), some (.int l2I), some (.long v1), none, some (.long v7), none, some (.long v30), none]) dL_isCarried_85 (by decide) rfl ?_
          refine wk_lload C dL_isCarried_87 rfl ?_
          refine wk_lconst C (v := 0) dL_isCarried_89 (by decide) ?_
          refine wk_lcmp C dL_isCarried_90 rfl ?_
          refine wk_if_ge C (tgt := 124) dL_isCarried_91 (by decide) (fun c35 => ?_) (fun c35 => ?_)
          · rw [if_pos c35] at h
            refine wk_aload_n C dL_isCarried_124 rfl rfl ?_
            refine wk_iload_n C dL_isCarried_125 rfl rfl ?_
            refine wk_lload C dL_isCarried_126 rfl ?_
            refine wk_ldc2 C (v := 121) (List.mem_of_getElem? (i := 12) rfl) dL_isCarried_128 ?_
            refine wk_lcmp C dL_isCarried_131 rfl ?_
            refine wk_if_ne C (tgt := 139) dL_isCarried_132 (by decide) (fun c36 => ?_) (fun c36 => ?_)
            · rw [if_neg c36] at h
              refine wk_iconst C (v := 0) dL_isCarried_139 (by decide) ?_
              obtain ⟨k40, n41, hk40, hn41, h⟩ := h
              refine wk_callT C hR (As := [.ref l0A, .int l1I, .int (0 : Int32)]) (cnt := 3) (tL_check (l := l) hst hcs hex hlt hWS31 (hXS31 _ _ (hXS25 _ _ (hXS19 _ _ (hXS13 _ _ (hXS8 _ _ (hXS2 _ _ hl0A)))))) h) rfl (wkGoodW (List.mem_of_getElem? (i := 13) rfl) (List.mem_of_getElem? (i := 14) rfl) (List.mem_of_getElem? (i := 3) rfl) hbL_isCarried_L_check gdL_check) (Nat.le_trans (by decide : 57 + 1 ≤ 58) hd) (by decide) ⟨by decide, by decide, by decide +kernel⟩ rfl rfl (Nat.le_of_ble_eq_true rfl) hk40 hn41 dL_isCarried_140 (fun v' S38 hp => ?_)
              obtain ⟨v37, rfl, h, hWS38, hXS38⟩ := hp
              refine wk_lconst C (v := 0) dL_isCarried_143 (by decide) ?_
              refine wk_lcmp C dL_isCarried_144 rfl ?_
              refine wk_if_ne C (tgt := 152) dL_isCarried_145 (by decide) (fun c42 => ?_) (fun c42 => ?_)
              · rw [if_neg c42] at h
                refine wk_iconst C (v := 0) dL_isCarried_152 (by decide) ?_
                exact E _ _ _ _ _ _ hk40 hn41 dL_isCarried_153 rfl ⟨(0 : Int32), rfl, h, hWS38, (wkExt.tr (wkExt.tr (wkExt.tr (wkExt.tr (wkExt.tr (wkExt.tr (wkExt.tr hE hXS2) hXS8) hXS13) hXS19) hXS25) hXS31) hXS38)⟩
              · rw [if_pos c42] at h
                refine wk_iconst C (v := 1) dL_isCarried_148 (by decide) ?_
                refine wk_goto C (tgt := 153) dL_isCarried_149 (by decide) ?_
                exact E _ _ _ _ _ _ hk40 hn41 dL_isCarried_153 rfl ⟨(1 : Int32), rfl, h, hWS38, (wkExt.tr (wkExt.tr (wkExt.tr (wkExt.tr (wkExt.tr (wkExt.tr (wkExt.tr hE hXS2) hXS8) hXS13) hXS19) hXS25) hXS31) hXS38)⟩
            · rw [if_pos c36] at h
              refine wk_iconst C (v := 1) dL_isCarried_135 (by decide) ?_
              refine wk_goto C (tgt := 140) dL_isCarried_136 (by decide) ?_
              obtain ⟨k46, n47, hk46, hn47, h⟩ := h
              refine wk_callT C hR (As := [.ref l0A, .int l1I, .int (1 : Int32)]) (cnt := 3) (tL_check (l := l) hst hcs hex hlt hWS31 (hXS31 _ _ (hXS25 _ _ (hXS19 _ _ (hXS13 _ _ (hXS8 _ _ (hXS2 _ _ hl0A)))))) h) rfl (wkGoodW (List.mem_of_getElem? (i := 13) rfl) (List.mem_of_getElem? (i := 14) rfl) (List.mem_of_getElem? (i := 3) rfl) hbL_isCarried_L_check gdL_check) (Nat.le_trans (by decide : 57 + 1 ≤ 58) hd) (by decide) ⟨by decide, by decide, by decide +kernel⟩ rfl rfl (Nat.le_of_ble_eq_true rfl) hk46 hn47 dL_isCarried_140 (fun v' S44 hp => ?_)
              obtain ⟨v43, rfl, h, hWS44, hXS44⟩ := hp
              refine wk_lconst C (v := 0) dL_isCarried_143 (by decide) ?_
              refine wk_lcmp C dL_isCarried_144 rfl ?_
              refine wk_if_ne C (tgt := 152) dL_isCarried_145 (by decide) (fun c48 => ?_) (fun c48 => ?_)
              · rw [if_neg c48] at h
                refine wk_iconst C (v := 0) dL_isCarried_152 (by decide) ?_
                exact E _ _ _ _ _ _ hk46 hn47 dL_isCarried_153 rfl ⟨(0 : Int32), rfl, h, hWS44, (wkExt.tr (wkExt.tr (wkExt.tr (wkExt.tr (wkExt.tr (wkExt.tr (wkExt.tr hE hXS2) hXS8) hXS13) hXS19) hXS25) hXS31) hXS44)⟩
              · rw [if_pos c48] at h
                refine wk_iconst C (v := 1) dL_isCarried_148 (by decide) ?_
                refine wk_goto C (tgt := 153) dL_isCarried_149 (by decide) ?_
                exact E _ _ _ _ _ _ hk46 hn47 dL_isCarried_153 rfl ⟨(1 : Int32), rfl, h, hWS44, (wkExt.tr (wkExt.tr (wkExt.tr (wkExt.tr (wkExt.tr (wkExt.tr (wkExt.tr hE hXS2) hXS8) hXS13) hXS19) hXS25) hXS31) hXS44)⟩
          · rw [if_neg c35] at h
            refine wk_lload C dL_isCarried_94 rfl ?_
            refine wk_ldc2 C (v := (-4000000000000000002)) (List.mem_of_getElem? (i := 15) rfl) dL_isCarried_96 ?_
            refine wk_lcmp C dL_isCarried_99 rfl ?_
            refine wk_if_ne C (tgt := 120) dL_isCarried_100 (by decide) (fun c49 => ?_) (fun c49 => ?_)
            · rw [if_neg c49] at h
              refine wk_iconst C (v := 0) dL_isCarried_120 (by decide) ?_
              refine wk_goto C (tgt := 153) dL_isCarried_121 (by decide) ?_
              exact E _ _ _ _ _ _ hk33 hn34 dL_isCarried_153 rfl ⟨(0 : Int32), rfl, h, hWS31, (wkExt.tr (wkExt.tr (wkExt.tr (wkExt.tr (wkExt.tr (wkExt.tr hE hXS2) hXS8) hXS13) hXS19) hXS25) hXS31)⟩
            · rw [if_pos c49] at h
              refine wk_iload_n C dL_isCarried_103 rfl rfl ?_
              refine wk_bipush C (v := 102) dL_isCarried_104 (by decide) ?_
              refine wk_icmp_ne C (tgt := 116) dL_isCarried_106 (by decide) (fun c50 => ?_) (fun c50 => ?_)
              · rw [if_neg c50] at h
                refine wk_iconst C (v := 1) dL_isCarried_116 (by decide) ?_
                refine wk_goto C (tgt := 153) dL_isCarried_117 (by decide) ?_
                exact E _ _ _ _ _ _ hk33 hn34 dL_isCarried_153 rfl ⟨(1 : Int32), rfl, h, hWS31, (wkExt.tr (wkExt.tr (wkExt.tr (wkExt.tr (wkExt.tr (wkExt.tr hE hXS2) hXS8) hXS13) hXS19) hXS25) hXS31)⟩
              · rw [if_pos c50] at h
                refine wk_lload C dL_isCarried_109 rfl ?_
                refine wk_lconst C (v := 0) dL_isCarried_111 (by decide) ?_
                refine wk_lcmp C dL_isCarried_112 rfl ?_
                refine wk_if_ge C (tgt := 120) dL_isCarried_113 (by decide) (fun c51 => ?_) (fun c51 => ?_)
                · rw [if_pos c51] at h
                  refine wk_iconst C (v := 0) dL_isCarried_120 (by decide) ?_
                  refine wk_goto C (tgt := 153) dL_isCarried_121 (by decide) ?_
                  exact E _ _ _ _ _ _ hk33 hn34 dL_isCarried_153 rfl ⟨(0 : Int32), rfl, h, hWS31, (wkExt.tr (wkExt.tr (wkExt.tr (wkExt.tr (wkExt.tr (wkExt.tr hE hXS2) hXS8) hXS13) hXS19) hXS25) hXS31)⟩
                · rw [if_neg c51] at h
                  refine wk_iconst C (v := 1) dL_isCarried_116 (by decide) ?_
                  refine wk_goto C (tgt := 153) dL_isCarried_117 (by decide) ?_
                  exact E _ _ _ _ _ _ hk33 hn34 dL_isCarried_153 rfl ⟨(1 : Int32), rfl, h, hWS31, (wkExt.tr (wkExt.tr (wkExt.tr (wkExt.tr (wkExt.tr (wkExt.tr hE hXS2) hXS8) hXS13) hXS19) hXS25) hXS31)⟩
        · rw [if_neg c29] at h
          refine wk_iconst C (v := 0) dL_isCarried_77 (by decide) ?_
          exact E _ _ _ _ _ _ hk27 hn28 dL_isCarried_78 rfl ⟨(0 : Int32), rfl, h, hWS25, (wkExt.tr (wkExt.tr (wkExt.tr (wkExt.tr (wkExt.tr hE hXS2) hXS8) hXS13) hXS19) hXS25)⟩
  · rw [if_neg c6] at h
    refine wk_lload_n C dL_isCarried_13 rfl rfl ?_
    refine wk_ldc2 C (v := (-4000000000000000003)) (List.mem_of_getElem? (i := 16) rfl) dL_isCarried_14 ?_
    refine wk_lcmp C dL_isCarried_17 rfl ?_
    refine wk_if_eq C (tgt := 29) dL_isCarried_18 (by decide) (fun c52 => ?_) (fun c52 => ?_)
    · rw [if_pos c52] at h
      refine wk_iconst C (v := 1) dL_isCarried_29 (by decide) ?_
      refine wk_goto C (tgt := 34) dL_isCarried_30 (by decide) ?_
      exact E _ _ _ _ _ _ hk4 hn5 dL_isCarried_34 rfl ⟨(1 : Int32), rfl, h, hWS2, (wkExt.tr hE hXS2)⟩
    · rw [if_neg c52] at h
      refine wk_lload_n C dL_isCarried_21 rfl rfl ?_
      refine wk_ldc2 C (v := (-4000000000000000004)) (List.mem_of_getElem? (i := 17) rfl) dL_isCarried_22 ?_
      refine wk_lcmp C dL_isCarried_25 rfl ?_
      refine wk_if_ne C (tgt := 33) dL_isCarried_26 (by decide) (fun c53 => ?_) (fun c53 => ?_)
      · rw [if_neg c53] at h
        refine wk_iconst C (v := 0) dL_isCarried_33 (by decide) ?_
        exact E _ _ _ _ _ _ hk4 hn5 dL_isCarried_34 rfl ⟨(0 : Int32), rfl, h, hWS2, (wkExt.tr hE hXS2)⟩
      · rw [if_pos c53] at h
        refine wk_iconst C (v := 1) dL_isCarried_29 (by decide) ?_
        refine wk_goto C (tgt := 34) dL_isCarried_30 (by decide) ?_
        exact E _ _ _ _ _ _ hk4 hn5 dL_isCarried_34 rfl ⟨(1 : Int32), rfl, h, hWS2, (wkExt.tr hE hXS2)⟩
