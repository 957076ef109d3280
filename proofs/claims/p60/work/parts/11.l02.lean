def wvL_part : List Cond := .code yL_part cL_part 5 (some .int) :: (([.methodLink RL 157 yL_drawn, .static yL_drawn, .initialized RL] : List Cond) ++ (([]) ++ (wvL_drawn)))
theorem hbL_part_L_drawn : ∀ w ∈ wvL_drawn, w ∈ wvL_part := fun w h => List.mem_cons_of_mem _ (List.mem_append_right _ (List.mem_append_right _ h))
theorem gdL_part : ∀ w ∈ wvL_part, wkGd w := wkGdC rfl (wkGdA (wkGdL (by decide +kernel)) (wkGdA (fun _ h => absurd h List.not_mem_nil) gdL_drawn))
def rL_part (G : wkG) (F : Nat) (l0I : Int32) (l1I : Int32) (l2I : Int32) (l4I : Int32) (S : wPS) (Φ : (Int32 → wPS → Prop)) : Prop :=
  if l0I = 97 then (if (2 : Int32) ≤ l2I then (rL_drawn G F l4I (2 : Int32) S fun v4 S5 => Φ v4 S5) else (rL_drawn G F l4I l1I S fun v9 S10 => Φ v9 S10)) else if l0I = 98 then (if (2 : Int32) ≤ l2I then (rL_drawn G F l4I (7 : Int32) S fun v16 S17 => Φ v16 S17) else (rL_drawn G F l4I l1I S fun v21 S22 => Φ v21 S22)) else if l0I = 99 then (if (2 : Int32) ≤ l2I then (rL_drawn G F l4I (7 : Int32) S fun v28 S29 => Φ v28 S29) else (rL_drawn G F l4I l1I S fun v33 S34 => Φ v33 S34)) else if l0I = 100 then (if (4 : Int32) ≤ l2I then (rL_drawn G F l4I (41 : Int32) S fun v40 S41 => Φ (v40 - (20 : Int32)) S41) else (rL_drawn G F l4I (13 : Int32) S fun v45 S46 => Φ (v45 - (6 : Int32)) S46)) else if l0I = 101 then (if (2 : Int32) ≤ l2I then (rL_drawn G F l4I (7 : Int32) S fun v52 S53 => Φ v52 S53) else (rL_drawn G F l4I l1I S fun v57 S58 => Φ v57 S58)) else if l0I = 102 then (if (2 : Int32) ≤ l2I then (rL_drawn G F l4I (7 : Int32) S fun v64 S65 => Φ v64 S65) else (rL_drawn G F l4I l1I S fun v69 S70 => Φ v69 S70)) else if l0I = 103 then (if (2 : Int32) ≤ l2I then (rL_drawn G F l4I (7 : Int32) S fun v76 S77 => Φ v76 S77) else (rL_drawn G F l4I l1I S fun v81 S82 => Φ v81 S82)) else if l0I = 104 then (if (2 : Int32) ≤ l2I then (rL_drawn G F l4I (7 : Int32) S fun v88 S89 => Φ v88 S89) else (rL_drawn G F l4I l1I S fun v93 S94 => Φ v93 S94)) else if l0I = 105 then (if (2 : Int32) ≤ l2I then (rL_drawn G F l4I (7 : Int32) S fun v100 S101 => Φ v100 S101) else (rL_drawn G F l4I l1I S fun v105 S106 => Φ v105 S106)) else if l0I = 106 then (if (2 : Int32) ≤ l2I then (rL_drawn G F l4I (7 : Int32) S fun v112 S113 => Φ v112 S113) else (rL_drawn G F l4I l1I S fun v117 S118 => Φ v117 S118)) else if l0I = 107 then (if (2 : Int32) ≤ l2I then (rL_drawn G F l4I (7 : Int32) S fun v124 S125 => Φ v124 S125) else (rL_drawn G F l4I l1I S fun v129 S130 => Φ v129 S130)) else if l0I = 108 then (if (4 : Int32) ≤ l2I then (rL_drawn G F l4I (81 : Int32) S fun v136 S137 => Φ (v136 - (40 : Int32)) S137) else (rL_drawn G F l4I (19 : Int32) S fun v141 S142 => Φ (v141 - (9 : Int32)) S142)) else if l0I = 109 then (if (2 : Int32) ≤ l2I then (rL_drawn G F l4I (7 : Int32) S fun v148 S149 => Φ v148 S149) else (rL_drawn G F l4I l1I S fun v153 S154 => Φ v153 S154)) else if l0I = 110 then (if (2 : Int32) ≤ l2I then (rL_drawn G F l4I (7 : Int32) S fun v160 S161 => Φ v160 S161) else (rL_drawn G F l4I l1I S fun v165 S166 => Φ v165 S166)) else if l0I = 111 then (if (2 : Int32) ≤ l2I then (rL_drawn G F l4I (7 : Int32) S fun v172 S173 => Φ v172 S173) else (rL_drawn G F l4I l1I S fun v177 S178 => Φ v177 S178)) else if l0I = 112 then (if (2 : Int32) ≤ l2I then (rL_drawn G F l4I (7 : Int32) S fun v184 S185 => Φ v184 S185) else (rL_drawn G F l4I l1I S fun v189 S190 => Φ v189 S190)) else if l0I = 113 then (if (2 : Int32) ≤ l2I then (rL_drawn G F l4I (7 : Int32) S fun v196 S197 => Φ v196 S197) else (rL_drawn G F l4I l1I S fun v201 S202 => Φ v201 S202)) else if l0I = 114 then (rL_drawn G F l4I (15 : Int32) S fun v207 S208 => Φ (v207 - (7 : Int32)) S208) else if l0I = 115 then (rL_drawn G F l4I (((2 : Int32) * l1I) + (1 : Int32)) S fun v213 S214 => Φ (v213 - l1I) S214) else if l0I = 116 then (if (2 : Int32) ≤ l2I then (rL_drawn G F l4I (7 : Int32) S fun v220 S221 => Φ v220 S221) else (rL_drawn G F l4I l1I S fun v225 S226 => Φ v225 S226)) else if l0I = 117 then (if (2 : Int32) ≤ l2I then (rL_drawn G F l4I (7 : Int32) S fun v232 S233 => Φ v232 S233) else (rL_drawn G F l4I l1I S fun v237 S238 => Φ v237 S238)) else if l0I = 118 then (if (2 : Int32) ≤ l2I then (rL_drawn G F l4I (7 : Int32) S fun v244 S245 => Φ v244 S245) else (rL_drawn G F l4I l1I S fun v249 S250 => Φ v249 S250)) else if l0I = 119 then (rL_drawn G F l4I (31 : Int32) S fun v255 S256 => Φ ((1 : Int32) + v255) S256) else if l0I = 120 then (if l2I = 0 then (rL_drawn G F l4I (2 : Int32) S fun v279 S280 => Φ v279 S280) else (if l2I = (1 : Int32) then (rL_drawn G F l4I (6 : Int32) S fun v274 S275 => Φ v274 S275) else (if l2I = (2 : Int32) then (rL_drawn G F l4I l1I S fun v269 S270 => Φ v269 S270) else (rL_drawn G F l4I (l1I + (1 : Int32)) S fun v264 S265 => Φ (v264 - (1 : Int32)) S265)))) else (if (2 : Int32) ≤ l2I then (rL_drawn G F l4I (7 : Int32) S fun v285 S286 => Φ v285 S286) else (rL_drawn G F l4I l1I S fun v290 S291 => Φ v290 S291))
set_option maxHeartbeats 4000000 in
set_option maxRecDepth 100000 in
theorem tL_part {l : Launch} {g : wkG} {F : Nat}  {S : wPS} {l0I : Int32} {l1I : Int32} {l2I : Int32} {l3A : Nat} {l4I : Int32} {Φ : (Int32 → wPS → Prop)} (harg : wkArg g) (hW : wkWF S) (hl3A : l3A = g.1 8) (h : rL_part g F l0I l1I l2I l4I S Φ) : wkMet l g yL_part wvL_part 2 0 0 [.int l0I, .int l1I, .int l2I, .ref l3A, .int l4I] S (fun v' S'' => ∃ v : Int32, v' = some (.int v) ∧ Φ v S'' ∧ wkWF S'' ∧ wkExt S S'') := by
  refine wkMet_of (ret := (some .int)) (by decide) rfl (Nat.le_of_ble_eq_true rfl) (fun X hg C hR E => ?_)
  subst hg
  have hE : wkExt S S := wkExt.rf
  have hd : 2 ≤ 2 := Nat.le_refl _
  show wkGo l X 5 0 0 0 S [some (.int l0I), some (.int l1I), some (.int l2I), some (.ref l3A), some (.int l4I)] []
  unfold rL_part at h
  refine wk_iload_n C dL_part_0 rfl rfl ?_
  by_cases c2 : l0I = 97
  · rw [if_pos c2] at h
    rw [c2]
    refine wk_tabIn C (tgt := 211) (off := 210) dL_part_1 (by decide) (by decide) (by decide) (by decide) ?_
    refine wk_aload_n C dL_part_211 rfl rfl ?_
    refine wk_iload C dL_part_212 rfl ?_
    refine wk_iload_n C dL_part_214 rfl rfl ?_
    refine wk_iconst C (v := 2) dL_part_215 (by decide) ?_
    refine wk_icmp_ge C (tgt := 223) dL_part_216 (by decide) (fun c3 => ?_) (fun c3 => ?_)
    · rw [if_pos c3] at h
      refine wk_iconst C (v := 2) dL_part_223 (by decide) ?_
      refine wk_callW C hR (As := [.ref l3A, .int l4I, .int (2 : Int32)]) (cnt := 3) (tL_drawn (l := l) harg hW hl3A h) rfl (wkGoodW (List.mem_of_getElem? (i := 1) rfl) (List.mem_of_getElem? (i := 2) rfl) (List.mem_of_getElem? (i := 3) rfl) hbL_part_L_drawn gdL_drawn) (Nat.le_trans (by decide : 1 + 1 ≤ 2) hd) (by decide) ⟨by decide, by decide, by decide +kernel⟩ rfl rfl (Nat.le_of_ble_eq_true rfl) (Nat.le_refl 0) (Nat.le_refl 0) dL_part_224 (fun v' S5 hp => ?_)
      obtain ⟨v4, rfl, h, hWS5, hXS5⟩ := hp
      exact E _ _ _ _ _ _ (Nat.le_refl 0) (Nat.le_refl 0) dL_part_227 ⟨v4, rfl, h, hWS5, (wkExt.tr hE hXS5)⟩
    · rw [if_neg c3] at h
      refine wk_iload_n C dL_part_219 rfl rfl ?_
      refine wk_goto C (tgt := 224) dL_part_220 (by decide) ?_
      refine wk_callW C hR (As := [.ref l3A, .int l4I, .int l1I]) (cnt := 3) (tL_drawn (l := l) harg hW hl3A h) rfl (wkGoodW (List.mem_of_getElem? (i := 1) rfl) (List.mem_of_getElem? (i := 2) rfl) (List.mem_of_getElem? (i := 3) rfl) hbL_part_L_drawn gdL_drawn) (Nat.le_trans (by decide : 1 + 1 ≤ 2) hd) (by decide) ⟨by decide, by decide, by decide +kernel⟩ rfl rfl (Nat.le_of_ble_eq_true rfl) (Nat.le_refl 0) (Nat.le_refl 0) dL_part_224 (fun v' S10 hp => ?_)
      obtain ⟨v9, rfl, h, hWS10, hXS10⟩ := hp
      exact E _ _ _ _ _ _ (Nat.le_refl 0) (Nat.le_refl 0) dL_part_227 ⟨v9, rfl, h, hWS10, (wkExt.tr hE hXS10)⟩
  · rw [if_neg c2] at h
    by_cases c14 : l0I = 98
    · rw [if_pos c14] at h
      rw [c14]
      refine wk_tabIn C (tgt := 285) (off := 284) dL_part_1 (by decide) (by decide) (by decide) (by decide) ?_
      refine wk_aload_n C dL_part_285 rfl rfl ?_
      refine wk_iload C dL_part_286 rfl ?_
      refine wk_iload_n C dL_part_288 rfl rfl ?_
      refine wk_iconst C (v := 2) dL_part_289 (by decide) ?_
      refine wk_icmp_ge C (tgt := 297) dL_part_290 (by decide) (fun c15 => ?_) (fun c15 => ?_)
      · rw [if_pos c15] at h
        refine wk_bipush C (v := 7) dL_part_297 (by decide) ?_
        refine wk_callW C hR (As := [.ref l3A, .int l4I, .int (7 : Int32)]) (cnt := 3) (tL_drawn (l := l) harg hW hl3A h) rfl (wkGoodW (List.mem_of_getElem? (i := 1) rfl) (List.mem_of_getElem? (i := 2) rfl) (List.mem_of_getElem? (i := 3) rfl) hbL_part_L_drawn gdL_drawn) (Nat.le_trans (by decide : 1 + 1 ≤ 2) hd) (by decide) ⟨by decide, by decide, by decide +kernel⟩ rfl rfl (Nat.le_of_ble_eq_true rfl) (Nat.le_refl 0) (Nat.le_refl 0) dL_part_299 (fun v' S17 hp => ?_)
        obtain ⟨v16, rfl, h, hWS17, hXS17⟩ := hp
        exact E _ _ _ _ _ _ (Nat.le_refl 0) (Nat.le_refl 0) dL_part_302 ⟨v16, rfl, h, hWS17, (wkExt.tr hE hXS17)⟩
      · rw [if_neg c15] at h
        refine wk_iload_n C dL_part_293 rfl rfl ?_
        refine wk_goto C (tgt := 299) dL_part_294 (by decide) ?_
        refine wk_callW C hR (As := [.ref l3A, .int l4I, .int l1I]) (cnt := 3) (tL_drawn (l := l) harg hW hl3A h) rfl (wkGoodW (List.mem_of_getElem? (i := 1) rfl) (List.mem_of_getElem? (i := 2) rfl) (List.mem_of_getElem? (i := 3) rfl) hbL_part_L_drawn gdL_drawn) (Nat.le_trans (by decide : 1 + 1 ≤ 2) hd) (by decide) ⟨by decide, by decide, by decide +kernel⟩ rfl rfl (Nat.le_of_ble_eq_true rfl) (Nat.le_refl 0) (Nat.le_refl 0) dL_part_299 (fun v' S22 hp => ?_)
        obtain ⟨v21, rfl, h, hWS22, hXS22⟩ := hp
        exact E _ _ _ _ _ _ (Nat.le_refl 0) (Nat.le_refl 0) dL_part_302 ⟨v21, rfl, h, hWS22, (wkExt.tr hE hXS22)⟩
    · rw [if_neg c14] at h
      by_cases c26 : l0I = 99
      · rw [if_pos c26] at h
        rw [c26]
        refine wk_tabIn C (tgt := 285) (off := 284) dL_part_1 (by decide) (by decide) (by decide) (by decide) ?_
        refine wk_aload_n C dL_part_285 rfl rfl ?_
        refine wk_iload C dL_part_286 rfl ?_
        refine wk_iload_n C dL_part_288 rfl rfl ?_
        refine wk_iconst C (v := 2) dL_part_289 (by decide) ?_
        refine wk_icmp_ge C (tgt := 297) dL_part_290 (by decide) (fun c27 => ?_) (fun c27 => ?_)
        · rw [if_pos c27] at h
          refine wk_bipush C (v := 7) dL_part_297 (by decide) ?_
          refine wk_callW C hR (As := [.ref l3A, .int l4I, .int (7 : Int32)]) (cnt := 3) (tL_drawn (l := l) harg hW hl3A h) rfl (wkGoodW (List.mem_of_getElem? (i := 1) rfl) (List.mem_of_getElem? (i := 2) rfl) (List.mem_of_getElem? (i := 3) rfl) hbL_part_L_drawn gdL_drawn) (Nat.le_trans (by decide : 1 + 1 ≤ 2) hd) (by decide) ⟨by decide, by decide, by decide +kernel⟩ rfl rfl (Nat.le_of_ble_eq_true rfl) (Nat.le_refl 0) (Nat.le_refl 0) dL_part_299 (fun v' S29 hp => ?_)
          obtain ⟨v28, rfl, h, hWS29, hXS29⟩ := hp
          exact E _ _ _ _ _ _ (Nat.le_refl 0) (Nat.le_refl 0) dL_part_302 ⟨v28, rfl, h, hWS29, (wkExt.tr hE hXS29)⟩
        · rw [if_neg c27] at h
          refine wk_iload_n C dL_part_293 rfl rfl ?_
          refine wk_goto C (tgt := 299) dL_part_294 (by decide) ?_
          refine wk_callW C hR (As := [.ref l3A, .int l4I, .int l1I]) (cnt := 3) (tL_drawn (l := l) harg hW hl3A h) rfl (wkGoodW (List.mem_of_getElem? (i := 1) rfl) (List.mem_of_getElem? (i := 2) rfl) (List.mem_of_getElem? (i := 3) rfl) hbL_part_L_drawn gdL_drawn) (Nat.le_trans (by decide : 1 + 1 ≤ 2) hd) (by decide) ⟨by decide, by decide, by decide +kernel⟩ rfl rfl (Nat.le_of_ble_eq_true rfl) (Nat.le_refl 0) (Nat.le_refl 0) dL_part_299 (fun v' S34 hp => ?_)
          obtain ⟨v33, rfl, h, hWS34, hXS34⟩ := hp
          exact E _ _ _ _ _ _ (Nat.le_refl 0) (Nat.le_refl 0) dL_part_302 ⟨v33, rfl, h, hWS34, (wkExt.tr hE hXS34)⟩
      · rw [if_neg c26] at h
        by_cases c38 : l0I = 100
        · rw [if_pos c38] at h
          rw [c38]
          refine wk_tabIn C (tgt := 157) (off := 156) dL_part_1 (by decide) (by decide) (by decide) (by decide) ?_
          refine wk_iload_n C dL_part_157 rfl rfl ?_
          refine wk_iconst C (v := 4) dL_part_158 (by decide) ?_
          refine wk_icmp_ge C (tgt := 176) dL_part_159 (by decide) (fun c39 => ?_) (fun c39 => ?_)
          · rw [if_pos c39] at h
            refine wk_aload_n C dL_part_176 rfl rfl ?_
            refine wk_iload C dL_part_177 rfl ?_
            refine wk_bipush C (v := 41) dL_part_179 (by decide) ?_
            refine wk_callW C hR (As := [.ref l3A, .int l4I, .int (41 : Int32)]) (cnt := 3) (tL_drawn (l := l) harg hW hl3A h) rfl (wkGoodW (List.mem_of_getElem? (i := 1) rfl) (List.mem_of_getElem? (i := 2) rfl) (List.mem_of_getElem? (i := 3) rfl) hbL_part_L_drawn gdL_drawn) (Nat.le_trans (by decide : 1 + 1 ≤ 2) hd) (by decide) ⟨by decide, by decide, by decide +kernel⟩ rfl rfl (Nat.le_of_ble_eq_true rfl) (Nat.le_refl 0) (Nat.le_refl 0) dL_part_181 (fun v' S41 hp => ?_)
            obtain ⟨v40, rfl, h, hWS41, hXS41⟩ := hp
            refine wk_bipush C (v := 20) dL_part_184 (by decide) ?_
            refine wk_isub C dL_part_186 rfl ?_
            exact E _ _ _ _ _ _ (Nat.le_refl 0) (Nat.le_refl 0) dL_part_187 ⟨(v40 - (20 : Int32)), rfl, h, hWS41, (wkExt.tr hE hXS41)⟩
          · rw [if_neg c39] at h
            refine wk_aload_n C dL_part_162 rfl rfl ?_
            refine wk_iload C dL_part_163 rfl ?_
            refine wk_bipush C (v := 13) dL_part_165 (by decide) ?_
            refine wk_callW C hR (As := [.ref l3A, .int l4I, .int (13 : Int32)]) (cnt := 3) (tL_drawn (l := l) harg hW hl3A h) rfl (wkGoodW (List.mem_of_getElem? (i := 1) rfl) (List.mem_of_getElem? (i := 2) rfl) (List.mem_of_getElem? (i := 3) rfl) hbL_part_L_drawn gdL_drawn) (Nat.le_trans (by decide : 1 + 1 ≤ 2) hd) (by decide) ⟨by decide, by decide, by decide +kernel⟩ rfl rfl (Nat.le_of_ble_eq_true rfl) (Nat.le_refl 0) (Nat.le_refl 0) dL_part_167 (fun v' S46 hp => ?_)
            obtain ⟨v45, rfl, h, hWS46, hXS46⟩ := hp
            refine wk_bipush C (v := 6) dL_part_170 (by decide) ?_
            refine wk_isub C dL_part_172 rfl ?_
            refine wk_goto C (tgt := 187) dL_part_173 (by decide) ?_
            exact E _ _ _ _ _ _ (Nat.le_refl 0) (Nat.le_refl 0) dL_part_187 ⟨(v45 - (6 : Int32)), rfl, h, hWS46, (wkExt.tr hE hXS46)⟩
        · rw [if_neg c38] at h
          by_cases c50 : l0I = 101
          · rw [if_pos c50] at h
            rw [c50]
            refine wk_tabIn C (tgt := 285) (off := 284) dL_part_1 (by decide) (by decide) (by decide) (by decide) ?_
            refine wk_aload_n C dL_part_285 rfl rfl ?_
            refine wk_iload C dL_part_286 rfl ?_
            refine wk_iload_n C dL_part_288 rfl rfl ?_
            refine wk_iconst C (v := 2) dL_part_289 (by decide) ?_
            refine wk_icmp_ge C (tgt := 297) dL_part_290 (by decide) (fun c51 => ?_) (fun c51 => ?_)
            · rw [if_pos c51] at h
              refine wk_bipush C (v := 7) dL_part_297 (by decide) ?_
              refine wk_callW C hR (As := [.ref l3A, .int l4I, .int (7 : Int32)]) (cnt := 3) (tL_drawn (l := l) harg hW hl3A h) rfl (wkGoodW (List.mem_of_getElem? (i := 1) rfl) (List.mem_of_getElem? (i := 2) rfl) (List.mem_of_getElem? (i := 3) rfl) hbL_part_L_drawn gdL_drawn) (Nat.le_trans (by decide : 1 + 1 ≤ 2) hd) (by decide) ⟨by decide, by decide, by decide +kernel⟩ rfl rfl (Nat.le_of_ble_eq_true rfl) (Nat.le_refl 0) (Nat.le_refl 0) dL_part_299 (fun v' S53 hp => ?_)
              obtain ⟨v52, rfl, h, hWS53, hXS53⟩ := hp
              exact E _ _ _ _ _ _ (Nat.le_refl 0) (Nat.le_refl 0) dL_part_302 ⟨v52, rfl, h, hWS53, (wkExt.tr hE hXS53)⟩
            · rw [if_neg c51] at h
              refine wk_iload_n C dL_part_293 rfl rfl ?_
              refine wk_goto C (tgt := 299) dL_part_294 (by decide) ?_
              refine wk_callW C hR (As := [.ref l3A, .int l4I, .int l1I]) (cnt := 3) (tL_drawn (l := l) harg hW hl3A h) rfl (wkGoodW (List.mem_of_getElem? (i := 1) rfl) (List.mem_of_getElem? (i := 2) rfl) (List.mem_of_getElem? (i := 3) rfl) hbL_part_L_drawn gdL_drawn) (Nat.le_trans (by decide : 1 + 1 ≤ 2) hd) (by decide) ⟨by decide, by decide, by decide +kernel⟩ rfl rfl (Nat.le_of_ble_eq_true rfl) (Nat.le_refl 0) (Nat.le_refl 0) dL_part_299 (fun v' S58 hp => ?_)
              obtain ⟨v57, rfl, h, hWS58, hXS58⟩ := hp
              exact E _ _ _ _ _ _ (Nat.le_refl 0) (Nat.le_refl 0) dL_part_302 ⟨v57, rfl, h, hWS58, (wkExt.tr hE hXS58)⟩
          · rw [if_neg c50] at h
            by_cases c62 : l0I = 102
            · rw [if_pos c62] at h
              rw [c62]
              refine wk_tabIn C (tgt := 285) (off := 284) dL_part_1 (by decide) (by decide) (by decide) (by decide) ?_
              refine wk_aload_n C dL_part_285 rfl rfl ?_
              refine wk_iload C dL_part_286 rfl ?_
              refine wk_iload_n C dL_part_288 rfl rfl ?_
              refine wk_iconst C (v := 2) dL_part_289 (by decide) ?_
              refine wk_icmp_ge C (tgt := 297) dL_part_290 (by decide) (fun c63 => ?_) (fun c63 => ?_)
              · rw [if_pos c63] at h
                refine wk_bipush C (v := 7) dL_part_297 (by decide) ?_
                refine wk_callW C hR (As := [.ref l3A, .int l4I, .int (7 : Int32)]) (cnt := 3) (tL_drawn (l := l) harg hW hl3A h) rfl (wkGoodW (List.mem_of_getElem? (i := 1) rfl) (List.mem_of_getElem? (i := 2) rfl) (List.mem_of_getElem? (i := 3) rfl) hbL_part_L_drawn gdL_drawn) (Nat.le_trans (by decide : 1 + 1 ≤ 2) hd) (by decide) ⟨by decide, by decide, by decide +kernel⟩ rfl rfl (Nat.le_of_ble_eq_true rfl) (Nat.le_refl 0) (Nat.le_refl 0) dL_part_299 (fun v' S65 hp => ?_)
                obtain ⟨v64, rfl, h, hWS65, hXS65⟩ := hp
                exact E _ _ _ _ _ _ (Nat.le_refl 0) (Nat.le_refl 0) dL_part_302 ⟨v64, rfl, h, hWS65, (wkExt.tr hE hXS65)⟩
              · rw [if_neg c63] at h
                refine wk_iload_n C dL_part_293 rfl rfl ?_
                refine wk_goto C (tgt := 299) dL_part_294 (by decide) ?_
                refine wk_callW C hR (As := [.ref l3A, .int l4I, .int l1I]) (cnt := 3) (tL_drawn (l := l) harg hW hl3A h) rfl (wkGoodW (List.mem_of_getElem? (i := 1) rfl) (List.mem_of_getElem? (i := 2) rfl) (List.mem_of_getElem? (i := 3) rfl) hbL_part_L_drawn gdL_drawn) (Nat.le_trans (by decide : 1 + 1 ≤ 2) hd) (by decide) ⟨by decide, by decide, by decide +kernel⟩ rfl rfl (Nat.le_of_ble_eq_true rfl) (Nat.le_refl 0) (Nat.le_refl 0) dL_part_299 (fun v' S70 hp => ?_)
                obtain ⟨v69, rfl, h, hWS70, hXS70⟩ := hp
                exact E _ _ _ _ _ _ (Nat.le_refl 0) (Nat.le_refl 0) dL_part_302 ⟨v69, rfl, h, hWS70, (wkExt.tr hE hXS70)⟩
            · rw [if_neg c62] at h
              by_cases c74 : l0I = 103
              · rw [if_pos c74] at h
                rw [c74]
                refine wk_tabIn C (tgt := 285) (off := 284) dL_part_1 (by decide) (by decide) (by decide) (by decide) ?_
                refine wk_aload_n C dL_part_285 rfl rfl ?_
                refine wk_iload C dL_part_286 rfl ?_
                refine wk_iload_n C dL_part_288 rfl rfl ?_
                refine wk_iconst C (v := 2) dL_part_289 (by decide) ?_
                refine wk_icmp_ge C (tgt := 297) dL_part_290 (by decide) (fun c75 => ?_) (fun c75 => ?_)
                · rw [if_pos c75] at h
                  refine wk_bipush C (v := 7) dL_part_297 (by decide) ?_
                  refine wk_callW C hR (As := [.ref l3A, .int l4I, .int (7 : Int32)]) (cnt := 3) (tL_drawn (l := l) harg hW hl3A h) rfl (wkGoodW (List.mem_of_getElem? (i := 1) rfl) (List.mem_of_getElem? (i := 2) rfl) (List.mem_of_getElem? (i := 3) rfl) hbL_part_L_drawn gdL_drawn) (Nat.le_trans (by decide : 1 + 1 ≤ 2) hd) (by decide) ⟨by decide, by decide, by decide +kernel⟩ rfl rfl (Nat.le_of_ble_eq_true rfl) (Nat.le_refl 0) (Nat.le_refl 0) dL_part_299 (fun v' S77 hp => ?_)
                  obtain ⟨v76, rfl, h, hWS77, hXS77⟩ := hp
                  exact E _ _ _ _ _ _ (Nat.le_refl 0) (Nat.le_refl 0) dL_part_302 ⟨v76, rfl, h, hWS77, (wkExt.tr hE hXS77)⟩
                · rw [if_neg c75] at h
                  refine wk_iload_n C dL_part_293 rfl rfl ?_
                  refine wk_goto C (tgt := 299) dL_part_294 (by decide) ?_
                  refine wk_callW C hR (As := [.ref l3A, .int l4I, .int l1I]) (cnt := 3) (tL_drawn (l := l) harg hW hl3A h) rfl (wkGoodW (List.mem_of_getElem? (i := 1) rfl) (List.mem_of_getElem? (i := 2) rfl) (List.mem_of_getElem? (i := 3) rfl) hbL_part_L_drawn gdL_drawn) (Nat.le_trans (by decide : 1 + 1 ≤ 2) hd) (by decide) ⟨by decide, by decide, by decide +kernel⟩ rfl rfl (Nat.le_of_ble_eq_true rfl) (Nat.le_refl 0) (Nat.le_refl 0) dL_part_299 (fun v' S82 hp => ?_)
                  obtain ⟨v81, rfl, h, hWS82, hXS82⟩ := hp
                  exact E _ _ _ _ _ _ (Nat.le_refl 0) (Nat.le_refl 0) dL_part_302 ⟨v81, rfl, h, hWS82, (wkExt.tr hE hXS82)⟩
              · rw [if_neg c74] at h
                by_cases c86 : l0I = 104
                · rw [if_pos c86] at h
                  rw [c86]
                  refine wk_tabIn C (tgt := 285) (off := 284) dL_part_1 (by decide) (by decide) (by decide) (by decide) ?_
                  refine wk_aload_n C dL_part_285 rfl rfl ?_
                  refine wk_iload C dL_part_286 rfl ?_
                  refine wk_iload_n C dL_part_288 rfl rfl ?_
                  refine wk_iconst C (v := 2) dL_part_289 (by decide) ?_
                  refine wk_icmp_ge C (tgt := 297) dL_part_290 (by decide) (fun c87 => ?_) (fun c87 => ?_)
                  · rw [if_pos c87] at h
                    refine wk_bipush C (v := 7) dL_part_297 (by decide) ?_
                    refine wk_callW C hR (As := [.ref l3A, .int l4I, .int (7 : Int32)]) (cnt := 3) (tL_drawn (l := l) harg hW hl3A h) rfl (wkGoodW (List.mem_of_getElem? (i := 1) rfl) (List.mem_of_getElem? (i := 2) rfl) (List.mem_of_getElem? (i := 3) rfl) hbL_part_L_drawn gdL_drawn) (Nat.le_trans (by decide : 1 + 1 ≤ 2) hd) (by decide) ⟨by decide, by decide, by decide +kernel⟩ rfl rfl (Nat.le_of_ble_eq_true rfl) (Nat.le_refl 0) (Nat.le_refl 0) dL_part_299 (fun v' S89 hp => ?_)
                    obtain ⟨v88, rfl, h, hWS89, hXS89⟩ := hp
                    exact E _ _ _ _ _ _ (Nat.le_refl 0) (Nat.le_refl 0) dL_part_302 ⟨v88, rfl, h, hWS89, (wkExt.tr hE hXS89)⟩
                  · rw [if_neg c87] at h
                    refine wk_iload_n C dL_part_293 rfl rfl ?_
                    refine wk_goto C (tgt := 299) dL_part_294 (by decide) ?_
                    refine wk_callW C hR (As := [.ref l3A, .int l4I, .int l1I]) (cnt := 3) (tL_drawn (l := l) harg hW hl3A h) rfl (wkGoodW (List.mem_of_getElem? (i := 1) rfl) (List.mem_of_getElem? (i := 2) rfl) (List.mem_of_getElem? (i := 3) rfl) hbL_part_L_drawn gdL_drawn) (Nat.le_trans (by decide : 1 + 1 ≤ 2) hd) (by decide) ⟨by decide, by decide, by decide +kernel⟩ rfl rfl (Nat.le_of_ble_eq_true rfl) (Nat.le_refl 0) (Nat.le_refl 0) dL_part_299 (fun v' S94 hp => ?_)
                    obtain ⟨v93, rfl, h, hWS94, hXS94⟩ := hp
                    exact E _ _ _ _ _ _ (Nat.le_refl 0) (Nat.le_refl 0) dL_part_302 ⟨v93, rfl, h, hWS94, (wkExt.tr hE hXS94)⟩
                · rw [if_neg c86] at h
                  by_cases c98 : l0I = 105
                  · rw [if_pos c98] at h
                    rw [c98]
                    refine wk_tabIn C (tgt := 285) (off := 284) dL_part_1 (by decide) (by decide) (by decide) (by decide) ?_
                    refine wk_aload_n C dL_part_285 rfl rfl ?_
                    refine wk_iload C dL_part_286 rfl ?_
                    refine wk_iload_n C dL_part_288 rfl rfl ?_
                    refine wk_iconst C (v := 2) dL_part_289 (by decide) ?_
                    refine wk_icmp_ge C (tgt := 297) dL_part_290 (by decide) (fun c99 => ?_) (fun c99 => ?_)
                    · rw [if_pos c99] at h
                      refine wk_bipush C (v := 7) dL_part_297 (by decide) ?_
                      refine wk_callW C hR (As := [.ref l3A, .int l4I, .int (7 : Int32)]) (cnt := 3) (tL_drawn (l := l) harg hW hl3A h) rfl (wkGoodW (List.mem_of_getElem? (i := 1) rfl) (List.mem_of_getElem? (i := 2) rfl) (List.mem_of_getElem? (i := 3) rfl) hbL_part_L_drawn gdL_drawn) (Nat.le_trans (by decide : 1 + 1 ≤ 2) hd) (by decide) ⟨by decide, by decide, by decide +kernel⟩ rfl rfl (Nat.le_of_ble_eq_true rfl) (Nat.le_refl 0) (Nat.le_refl 0) dL_part_299 (fun v' S101 hp => ?_)
                      obtain ⟨v100, rfl, h, hWS101, hXS101⟩ := hp
                      exact E _ _ _ _ _ _ (Nat.le_refl 0) (Nat.le_refl 0) dL_part_302 ⟨v100, rfl, h, hWS101, (wkExt.tr hE hXS101)⟩
                    · rw [if_neg c99] at h
                      refine wk_iload_n C dL_part_293 rfl rfl ?_
                      refine wk_goto C (tgt := 299) dL_part_294 (by decide) ?_
                      refine wk_callW C hR (As := [.ref l3A, .int l4I, .int l1I]) (cnt := 3) (tL_drawn (l := l) harg hW hl3A h) rfl (wkGoodW (List.mem_of_getElem? (i := 1) rfl) (List.mem_of_getElem? (i := 2) rfl) (List.mem_of_getElem? (i := 3) rfl) hbL_part_L_drawn gdL_drawn) (Nat.le_trans (by decide : 1 + 1 ≤ 2) hd) (by decide) ⟨by decide, by decide, by decide +kernel⟩ rfl rfl (Nat.le_of_ble_eq_true rfl) (Nat.le_refl 0) (Nat.le_refl 0) dL_part_299 (fun v' S106 hp => ?_)
                      obtain ⟨v105, rfl, h, hWS106, hXS106⟩ := hp
                      exact E _ _ _ _ _ _ (Nat.le_refl 0) (Nat.le_refl 0) dL_part_302 ⟨v105, rfl, h, hWS106, (wkExt.tr hE hXS106)⟩
                  · rw [if_neg c98] at h
                    by_cases c110 : l0I = 106
                    · rw [if_pos c110] at h
                      rw [c110]
                      refine wk_tabIn C (tgt := 285) (off := 284) dL_part_1 (by decide) (by decide) (by decide) (by decide) ?_
                      refine wk_aload_n C dL_part_285 rfl rfl ?_
                      refine wk_iload C dL_part_286 rfl ?_
                      refine wk_iload_n C dL_part_288 rfl rfl ?_
                      refine wk_iconst C (v := 2) dL_part_289 (by decide) ?_
                      refine wk_icmp_ge C (tgt := 297) dL_part_290 (by decide) (fun c111 => ?_) (fun c111 => ?_)
                      · rw [if_pos c111] at h
                        refine wk_bipush C (v := 7) dL_part_297 (by decide) ?_
                        refine wk_callW C hR (As := [.ref l3A, .int l4I, .int (7 : Int32)]) (cnt := 3) (tL_drawn (l := l) harg hW hl3A h) rfl (wkGoodW (List.mem_of_getElem? (i := 1) rfl) (List.mem_of_getElem? (i := 2) rfl) (List.mem_of_getElem? (i := 3) rfl) hbL_part_L_drawn gdL_drawn) (Nat.le_trans (by decide : 1 + 1 ≤ 2) hd) (by decide) ⟨by decide, by decide, by decide +kernel⟩ rfl rfl (Nat.le_of_ble_eq_true rfl) (Nat.le_refl 0) (Nat.le_refl 0) dL_part_299 (fun v' S113 hp => ?_)
                        obtain ⟨v112, rfl, h, hWS113, hXS113⟩ := hp
                        exact E _ _ _ _ _ _ (Nat.le_refl 0) (Nat.le_refl 0) dL_part_302 ⟨v112, rfl, h, hWS113, (wkExt.tr hE hXS113)⟩
                      · rw [if_neg c111] at h
                        refine wk_iload_n C dL_part_293 rfl rfl ?_
                        refine wk_goto C (tgt := 299) dL_part_294 (by decide) ?_
                        refine wk_callW C hR (As := [.ref l3A, .int l4I, .int l1I]) (cnt := 3) (tL_drawn (l := l) harg hW hl3A h) rfl (wkGoodW (List.mem_of_getElem? (i := 1) rfl) (List.mem_of_getElem? (i := 2) rfl) (List.mem_of_getElem? (i := 3) rfl) hbL_part_L_drawn gdL_drawn) (Nat.le_trans (by decide : 1 + 1 ≤ 2) hd) (by decide) ⟨by decide, by decide, by decide +kernel⟩ rfl rfl (Nat.le_of_ble_eq_true rfl) (Nat.le_refl 0) (Nat.le_refl 0) dL_part_299 (fun v' S118 hp => ?_)
                        obtain ⟨v117, rfl, h, hWS118, hXS118⟩ := hp
                        exact E _ _ _ _ _ _ (Nat.le_refl 0) (Nat.le_refl 0) dL_part_302 ⟨v117, rfl, h, hWS118, (wkExt.tr hE hXS118)⟩
                    · rw [if_neg c110] at h
                      by_cases c122 : l0I = 107
                      · rw [if_pos c122] at h
                        rw [c122]
                        refine wk_tabIn C (tgt := 285) (off := 284) dL_part_1 (by decide) (by decide) (by decide) (by decide) ?_
                        refine wk_aload_n C dL_part_285 rfl rfl ?_
                        refine wk_iload C dL_part_286 rfl ?_
                        refine wk_iload_n C dL_part_288 rfl rfl ?_
                        refine wk_iconst C (v := 2) dL_part_289 (by decide) ?_
                        refine wk_icmp_ge C (tgt := 297) dL_part_290 (by decide) (fun c123 => ?_) (fun c123 => ?_)
                        · rw [if_pos c123] at h
                          refine wk_bipush C (v := 7) dL_part_297 (by decide) ?_
                          refine wk_callW C hR (As := [.ref l3A, .int l4I, .int (7 : Int32)]) (cnt := 3) (tL_drawn (l := l) harg hW hl3A h) rfl (wkGoodW (List.mem_of_getElem? (i := 1) rfl) (List.mem_of_getElem? (i := 2) rfl) (List.mem_of_getElem? (i := 3) rfl) hbL_part_L_drawn gdL_drawn) (Nat.le_trans (by decide : 1 + 1 ≤ 2) hd) (by decide) ⟨by decide, by decide, by decide +kernel⟩ rfl rfl (Nat.le_of_ble_eq_true rfl) (Nat.le_refl 0) (Nat.le_refl 0) dL_part_299 (fun v' S125 hp => ?_)
                          obtain ⟨v124, rfl, h, hWS125, hXS125⟩ := hp
                          exact E _ _ _ _ _ _ (Nat.le_refl 0) (Nat.le_refl 0) dL_part_302 ⟨v124, rfl, h, hWS125, (wkExt.tr hE hXS125)⟩
                        · rw [if_neg c123] at h
                          refine wk_iload_n C dL_part_293 rfl rfl ?_
                          refine wk_goto C (tgt := 299) dL_part_294 (by decide) ?_
                          refine wk_callW C hR (As := [.ref l3A, .int l4I, .int l1I]) (cnt := 3) (tL_drawn (l := l) harg hW hl3A h) rfl (wkGoodW (List.mem_of_getElem? (i := 1) rfl) (List.mem_of_getElem? (i := 2) rfl) (List.mem_of_getElem? (i := 3) rfl) hbL_part_L_drawn gdL_drawn) (Nat.le_trans (by decide : 1 + 1 ≤ 2) hd) (by decide) ⟨by decide, by decide, by decide +kernel⟩ rfl rfl (Nat.le_of_ble_eq_true rfl) (Nat.le_refl 0) (Nat.le_refl 0) dL_part_299 (fun v' S130 hp => ?_)
                          obtain ⟨v129, rfl, h, hWS130, hXS130⟩ := hp
                          exact E _ _ _ _ _ _ (Nat.le_refl 0) (Nat.le_refl 0) dL_part_302 ⟨v129, rfl, h, hWS130, (wkExt.tr hE hXS130)⟩
                      · rw [if_neg c122] at h
                        by_cases c134 : l0I = 108
                        · rw [if_pos c134] at h
                          rw [c134]
                          refine wk_tabIn C (tgt := 112) (off := 111) dL_part_1 (by decide) (by decide) (by decide) (by decide) ?_
                          refine wk_iload_n C dL_part_112 rfl rfl ?_
                          refine wk_iconst C (v := 4) dL_part_113 (by decide) ?_
                          refine wk_icmp_ge C (tgt := 131) dL_part_114 (by decide) (fun c135 => ?_) (fun c135 => ?_)
                          · rw [if_pos c135] at h
                            refine wk_aload_n C dL_part_131 rfl rfl ?_
                            refine wk_iload C dL_part_132 rfl ?_
                            refine wk_bipush C (v := 81) dL_part_134 (by decide) ?_
                            refine wk_callW C hR (As := [.ref l3A, .int l4I, .int (81 : Int32)]) (cnt := 3) (tL_drawn (l := l) harg hW hl3A h) rfl (wkGoodW (List.mem_of_getElem? (i := 1) rfl) (List.mem_of_getElem? (i := 2) rfl) (List.mem_of_getElem? (i := 3) rfl) hbL_part_L_drawn gdL_drawn) (Nat.le_trans (by decide : 1 + 1 ≤ 2) hd) (by decide) ⟨by decide, by decide, by decide +kernel⟩ rfl rfl (Nat.le_of_ble_eq_true rfl) (Nat.le_refl 0) (Nat.le_refl 0) dL_part_136 (fun v' S137 hp => ?_)
                            obtain ⟨v136, rfl, h, hWS137, hXS137⟩ := hp
                            refine wk_bipush C (v := 40) dL_part_139 (by decide) ?_
                            refine wk_isub C dL_part_141 rfl ?_
                            exact E _ _ _ _ _ _ (Nat.le_refl 0) (Nat.le_refl 0) dL_part_142 ⟨(v136 - (40 : Int32)), rfl, h, hWS137, (wkExt.tr hE hXS137)⟩
                          · rw [if_neg c135] at h
                            refine wk_aload_n C dL_part_117 rfl rfl ?_
                            refine wk_iload C dL_part_118 rfl ?_
                            refine wk_bipush C (v := 19) dL_part_120 (by decide) ?_
                            refine wk_callW C hR (As := [.ref l3A, .int l4I, .int (19 : Int32)]) (cnt := 3) (tL_drawn (l := l) harg hW hl3A h) rfl (wkGoodW (List.mem_of_getElem? (i := 1) rfl) (List.mem_of_getElem? (i := 2) rfl) (List.mem_of_getElem? (i := 3) rfl) hbL_part_L_drawn gdL_drawn) (Nat.le_trans (by decide : 1 + 1 ≤ 2) hd) (by decide) ⟨by decide, by decide, by decide +kernel⟩ rfl rfl (Nat.le_of_ble_eq_true rfl) (Nat.le_refl 0) (Nat.le_refl 0) dL_part_122 (fun v' S142 hp => ?_)
                            obtain ⟨v141, rfl, h, hWS142, hXS142⟩ := hp
                            refine wk_bipush C (v := 9) dL_part_125 (by decide) ?_
                            refine wk_isub C dL_part_127 rfl ?_
                            refine wk_goto C (tgt := 142) dL_part_128 (by decide) ?_
                            exact E _ _ _ _ _ _ (Nat.le_refl 0) (Nat.le_refl 0) dL_part_142 ⟨(v141 - (9 : Int32)), rfl, h, hWS142, (wkExt.tr hE hXS142)⟩
                        · rw [if_neg c134] at h
                          by_cases c146 : l0I = 109
                          · rw [if_pos c146] at h
                            rw [c146]
                            refine wk_tabIn C (tgt := 285) (off := 284) dL_part_1 (by decide) (by decide) (by decide) (by decide) ?_
                            refine wk_aload_n C dL_part_285 rfl rfl ?_
                            refine wk_iload C dL_part_286 rfl ?_
                            refine wk_iload_n C dL_part_288 rfl rfl ?_
                            refine wk_iconst C (v := 2) dL_part_289 (by decide) ?_
                            refine wk_icmp_ge C (tgt := 297) dL_part_290 (by decide) (fun c147 => ?_) (fun c147 => ?_)
                            · rw [if_pos c147] at h
                              refine wk_bipush C (v := 7) dL_part_297 (by decide) ?_
                              refine wk_callW C hR (As := [.ref l3A, .int l4I, .int (7 : Int32)]) (cnt := 3) (tL_drawn (l := l) harg hW hl3A h) rfl (wkGoodW (List.mem_of_getElem? (i := 1) rfl) (List.mem_of_getElem? (i := 2) rfl) (List.mem_of_getElem? (i := 3) rfl) hbL_part_L_drawn gdL_drawn) (Nat.le_trans (by decide : 1 + 1 ≤ 2) hd) (by decide) ⟨by decide, by decide, by decide +kernel⟩ rfl rfl (Nat.le_of_ble_eq_true rfl) (Nat.le_refl 0) (Nat.le_refl 0) dL_part_299 (fun v' S149 hp => ?_)
                              obtain ⟨v148, rfl, h, hWS149, hXS149⟩ := hp
                              exact E _ _ _ _ _ _ (Nat.le_refl 0) (Nat.le_refl 0) dL_part_302 ⟨v148, rfl, h, hWS149, (wkExt.tr hE hXS149)⟩
                            · rw [if_neg c147] at h
                              refine wk_iload_n C dL_part_293 rfl rfl ?_
                              refine wk_goto C (tgt := 299) dL_part_294 (by decide) ?_
                              refine wk_callW C hR (As := [.ref l3A, .int l4I, .int l1I]) (cnt := 3) (tL_drawn (l := l) harg hW hl3A h) rfl (wkGoodW (List.mem_of_getElem? (i := 1) rfl) (List.mem_of_getElem? (i := 2) rfl) (List.mem_of_getElem? (i := 3) rfl) hbL_part_L_drawn gdL_drawn) (Nat.le_trans (by decide : 1 + 1 ≤ 2) hd) (by decide) ⟨by decide, by decide, by decide +kernel⟩ rfl rfl (Nat.le_of_ble_eq_true rfl) (Nat.le_refl 0) (Nat.le_refl 0) dL_part_299 (fun v' S154 hp => ?_)
                              obtain ⟨v153, rfl, h, hWS154, hXS154⟩ := hp
                              exact E _ _ _ _ _ _ (Nat.le_refl 0) (Nat.le_refl 0) dL_part_302 ⟨v153, rfl, h, hWS154, (wkExt.tr hE hXS154)⟩
                          · rw [if_neg c146] at h
                            by_cases c158 : l0I = 110
                            · rw [if_pos c158] at h
                              rw [c158]
                              refine wk_tabIn C (tgt := 285) (off := 284) dL_part_1 (by decide) (by decide) (by decide) (by decide) ?_
                              refine wk_aload_n C dL_part_285 rfl rfl ?_
                              refine wk_iload C dL_part_286 rfl ?_
                              refine wk_iload_n C dL_part_288 rfl rfl ?_
                              refine wk_iconst C (v := 2) dL_part_289 (by decide) ?_
                              refine wk_icmp_ge C (tgt := 297) dL_part_290 (by decide) (fun c159 => ?_) (fun c159 => ?_)
                              · rw [if_pos c159] at h
                                refine wk_bipush C (v := 7) dL_part_297 (by decide) ?_
                                refine wk_callW C hR (As := [.ref l3A, .int l4I, .int (7 : Int32)]) (cnt := 3) (tL_drawn (l := l) harg hW hl3A h) rfl (wkGoodW (List.mem_of_getElem? (i := 1) rfl) (List.mem_of_getElem? (i := 2) rfl) (List.mem_of_getElem? (i := 3) rfl) hbL_part_L_drawn gdL_drawn) (Nat.le_trans (by decide : 1 + 1 ≤ 2) hd) (by decide) ⟨by decide, by decide, by decide +kernel⟩ rfl rfl (Nat.le_of_ble_eq_true rfl) (Nat.le_refl 0) (Nat.le_refl 0) dL_part_299 (fun v' S161 hp => ?_)
                                obtain ⟨v160, rfl, h, hWS161, hXS161⟩ := hp
                                exact E _ _ _ _ _ _ (Nat.le_refl 0) (Nat.le_refl 0) dL_part_302 ⟨v160, rfl, h, hWS161, (wkExt.tr hE hXS161)⟩
                              · rw [if_neg c159] at h
                                refine wk_iload_n C dL_part_293 rfl rfl ?_
                                refine wk_goto C (tgt := 299) dL_part_294 (by decide) ?_
                                refine wk_callW C hR (As := [.ref l3A, .int l4I, .int l1I]) (cnt := 3) (tL_drawn (l := l) harg hW hl3A h) rfl (wkGoodW (List.mem_of_getElem? (i := 1) rfl) (List.mem_of_getElem? (i := 2) rfl) (List.mem_of_getElem? (i := 3) rfl) hbL_part_L_drawn gdL_drawn) (Nat.le_trans (by decide : 1 + 1 ≤ 2) hd) (by decide) ⟨by decide, by decide, by decide +kernel⟩ rfl rfl (Nat.le_of_ble_eq_true rfl) (Nat.le_refl 0) (Nat.le_refl 0) dL_part_299 (fun v' S166 hp => ?_)
                                obtain ⟨v165, rfl, h, hWS166, hXS166⟩ := hp
                                exact E _ _ _ _ _ _ (Nat.le_refl 0) (Nat.le_refl 0) dL_part_302 ⟨v165, rfl, h, hWS166, (wkExt.tr hE hXS166)⟩
                            · rw [if_neg c158] at h
                              by_cases c170 : l0I = 111
                              · rw [if_pos c170] at h
                                rw [c170]
                                refine wk_tabIn C (tgt := 285) (off := 284) dL_part_1 (by decide) (by decide) (by decide) (by decide) ?_
                                refine wk_aload_n C dL_part_285 rfl rfl ?_
                                refine wk_iload C dL_part_286 rfl ?_
                                refine wk_iload_n C dL_part_288 rfl rfl ?_
                                refine wk_iconst C (v := 2) dL_part_289 (by decide) ?_
                                refine wk_icmp_ge C (tgt := 297) dL_part_290 (by decide) (fun c171 => ?_) (fun c171 => ?_)
                                · rw [if_pos c171] at h
                                  refine wk_bipush C (v := 7) dL_part_297 (by decide) ?_
                                  refine wk_callW C hR (As := [.ref l3A, .int l4I, .int (7 : Int32)]) (cnt := 3) (tL_drawn (l := l) harg hW hl3A h) rfl (wkGoodW (List.mem_of_getElem? (i := 1) rfl) (List.mem_of_getElem? (i := 2) rfl) (List.mem_of_getElem? (i := 3) rfl) hbL_part_L_drawn gdL_drawn) (Nat.le_trans (by decide : 1 + 1 ≤ 2) hd) (by decide) ⟨by decide, by decide, by decide +kernel⟩ rfl rfl (Nat.le_of_ble_eq_true rfl) (Nat.le_refl 0) (Nat.le_refl 0) dL_part_299 (fun v' S173 hp => ?_)
                                  obtain ⟨v172, rfl, h, hWS173, hXS173⟩ := hp
                                  exact E _ _ _ _ _ _ (Nat.le_refl 0) (Nat.le_refl 0) dL_part_302 ⟨v172, rfl, h, hWS173, (wkExt.tr hE hXS173)⟩
                                · rw [if_neg c171] at h
                                  refine wk_iload_n C dL_part_293 rfl rfl ?_
                                  refine wk_goto C (tgt := 299) dL_part_294 (by decide) ?_
                                  refine wk_callW C hR (As := [.ref l3A, .int l4I, .int l1I]) (cnt := 3) (tL_drawn (l := l) harg hW hl3A h) rfl (wkGoodW (List.mem_of_getElem? (i := 1) rfl) (List.mem_of_getElem? (i := 2) rfl) (List.mem_of_getElem? (i := 3) rfl) hbL_part_L_drawn gdL_drawn) (Nat.le_trans (by decide : 1 + 1 ≤ 2) hd) (by decide) ⟨by decide, by decide, by decide +kernel⟩ rfl rfl (Nat.le_of_ble_eq_true rfl) (Nat.le_refl 0) (Nat.le_refl 0) dL_part_299 (fun v' S178 hp => ?_)
                                  obtain ⟨v177, rfl, h, hWS178, hXS178⟩ := hp
                                  exact E _ _ _ _ _ _ (Nat.le_refl 0) (Nat.le_refl 0) dL_part_302 ⟨v177, rfl, h, hWS178, (wkExt.tr hE hXS178)⟩
                              · rw [if_neg c170] at h
                                by_cases c182 : l0I = 112
                                · rw [if_pos c182] at h
                                  rw [c182]
                                  refine wk_tabIn C (tgt := 285) (off := 284) dL_part_1 (by decide) (by decide) (by decide) (by decide) ?_
                                  refine wk_aload_n C dL_part_285 rfl rfl ?_
                                  refine wk_iload C dL_part_286 rfl ?_
                                  refine wk_iload_n C dL_part_288 rfl rfl ?_
                                  refine wk_iconst C (v := 2) dL_part_289 (by decide) ?_
                                  refine wk_icmp_ge C (tgt := 297) dL_part_290 (by decide) (fun c183 => ?_) (fun c183 => ?_)
                                  · rw [if_pos c183] at h
                                    refine wk_bipush C (v := 7) dL_part_297 (by decide) ?_
                                    refine wk_callW C hR (As := [.ref l3A, .int l4I, .int (7 : Int32)]) (cnt := 3) (tL_drawn (l := l) harg hW hl3A h) rfl (wkGoodW (List.mem_of_getElem? (i := 1) rfl) (List.mem_of_getElem? (i := 2) rfl) (List.mem_of_getElem? (i := 3) rfl) hbL_part_L_drawn gdL_drawn) (Nat.le_trans (by decide : 1 + 1 ≤ 2) hd) (by decide) ⟨by decide, by decide, by decide +kernel⟩ rfl rfl (Nat.le_of_ble_eq_true rfl) (Nat.le_refl 0) (Nat.le_refl 0) dL_part_299 (fun v' S185 hp => ?_)
                                    obtain ⟨v184, rfl, h, hWS185, hXS185⟩ := hp
                                    exact E _ _ _ _ _ _ (Nat.le_refl 0) (Nat.le_refl 0) dL_part_302 ⟨v184, rfl, h, hWS185, (wkExt.tr hE hXS185)⟩
                                  · rw [if_neg c183] at h
                                    refine wk_iload_n C dL_part_293 rfl rfl ?_
                                    refine wk_goto C (tgt := 299) dL_part_294 (by decide) ?_
                                    refine wk_callW C hR (As := [.ref l3A, .int l4I, .int l1I]) (cnt := 3) (tL_drawn (l := l) harg hW hl3A h) rfl (wkGoodW (List.mem_of_getElem? (i := 1) rfl) (List.mem_of_getElem? (i := 2) rfl) (List.mem_of_getElem? (i := 3) rfl) hbL_part_L_drawn gdL_drawn) (Nat.le_trans (by decide : 1 + 1 ≤ 2) hd) (by decide) ⟨by decide, by decide, by decide +kernel⟩ rfl rfl (Nat.le_of_ble_eq_true rfl) (Nat.le_refl 0) (Nat.le_refl 0) dL_part_299 (fun v' S190 hp => ?_)
                                    obtain ⟨v189, rfl, h, hWS190, hXS190⟩ := hp
                                    exact E _ _ _ _ _ _ (Nat.le_refl 0) (Nat.le_refl 0) dL_part_302 ⟨v189, rfl, h, hWS190, (wkExt.tr hE hXS190)⟩
                                · rw [if_neg c182] at h
                                  by_cases c194 : l0I = 113
                                  · rw [if_pos c194] at h
                                    rw [c194]
                                    refine wk_tabIn C (tgt := 285) (off := 284) dL_part_1 (by decide) (by decide) (by decide) (by decide) ?_
                                    refine wk_aload_n C dL_part_285 rfl rfl ?_
                                    refine wk_iload C dL_part_286 rfl ?_
                                    refine wk_iload_n C dL_part_288 rfl rfl ?_
                                    refine wk_iconst C (v := 2) dL_part_289 (by decide) ?_
                                    refine wk_icmp_ge C (tgt := 297) dL_part_290 (by decide) (fun c195 => ?_) (fun c195 => ?_)
                                    · rw [if_pos c195] at h
                                      refine wk_bipush C (v := 7) dL_part_297 (by decide) ?_
                                      refine wk_callW C hR (As := [.ref l3A, .int l4I, .int (7 : Int32)]) (cnt := 3) (tL_drawn (l := l) harg hW hl3A h) rfl (wkGoodW (List.mem_of_getElem? (i := 1) rfl) (List.mem_of_getElem? (i := 2) rfl) (List.mem_of_getElem? (i := 3) rfl) hbL_part_L_drawn gdL_drawn) (Nat.le_trans (by decide : 1 + 1 ≤ 2) hd) (by decide) ⟨by decide, by decide, by decide +kernel⟩ rfl rfl (Nat.le_of_ble_eq_true rfl) (Nat.le_refl 0) (Nat.le_refl 0) dL_part_299 (fun v' S197 hp => ?_)
                                      obtain ⟨v196, rfl, h, hWS197, hXS197⟩ := hp
                                      exact E _ _ _ _ _ _ (Nat.le_refl 0) (Nat.le_refl 0) dL_part_302 ⟨v196, rfl, h, hWS197, (wkExt.tr hE hXS197)⟩
                                    · rw [if_neg c195] at h
                                      refine wk_iload_n C dL_part_293 rfl rfl ?_
                                      refine wk_goto C (tgt := 299) dL_part_294 (by decide) ?_
                                      refine wk_callW C hR (As := [.ref l3A, .int l4I, .int l1I]) (cnt := 3) (tL_drawn (l := l) harg hW hl3A h) rfl (wkGoodW (List.mem_of_getElem? (i := 1) rfl) (List.mem_of_getElem? (i := 2) rfl) (List.mem_of_getElem? (i := 3) rfl) hbL_part_L_drawn gdL_drawn) (Nat.le_trans (by decide : 1 + 1 ≤ 2) hd) (by decide) ⟨by decide, by decide, by decide +kernel⟩ rfl rfl (Nat.le_of_ble_eq_true rfl) (Nat.le_refl 0) (Nat.le_refl 0) dL_part_299 (fun v' S202 hp => ?_)
                                      obtain ⟨v201, rfl, h, hWS202, hXS202⟩ := hp
                                      exact E _ _ _ _ _ _ (Nat.le_refl 0) (Nat.le_refl 0) dL_part_302 ⟨v201, rfl, h, hWS202, (wkExt.tr hE hXS202)⟩
                                  · rw [if_neg c194] at h
                                    by_cases c206 : l0I = 114
                                    · rw [if_pos c206] at h
                                      rw [c206]
                                      refine wk_tabIn C (tgt := 188) (off := 187) dL_part_1 (by decide) (by decide) (by decide) (by decide) ?_
                                      refine wk_aload_n C dL_part_188 rfl rfl ?_
                                      refine wk_iload C dL_part_189 rfl ?_
                                      refine wk_bipush C (v := 15) dL_part_191 (by decide) ?_
                                      refine wk_callW C hR (As := [.ref l3A, .int l4I, .int (15 : Int32)]) (cnt := 3) (tL_drawn (l := l) harg hW hl3A h) rfl (wkGoodW (List.mem_of_getElem? (i := 1) rfl) (List.mem_of_getElem? (i := 2) rfl) (List.mem_of_getElem? (i := 3) rfl) hbL_part_L_drawn gdL_drawn) (Nat.le_trans (by decide : 1 + 1 ≤ 2) hd) (by decide) ⟨by decide, by decide, by decide +kernel⟩ rfl rfl (Nat.le_of_ble_eq_true rfl) (Nat.le_refl 0) (Nat.le_refl 0) dL_part_193 (fun v' S208 hp => ?_)
                                      obtain ⟨v207, rfl, h, hWS208, hXS208⟩ := hp
                                      refine wk_bipush C (v := 7) dL_part_196 (by decide) ?_
                                      refine wk_isub C dL_part_198 rfl ?_
                                      exact E _ _ _ _ _ _ (Nat.le_refl 0) (Nat.le_refl 0) dL_part_199 ⟨(v207 - (7 : Int32)), rfl, h, hWS208, (wkExt.tr hE hXS208)⟩
                                    · rw [if_neg c206] at h
                                      by_cases c212 : l0I = 115
                                      · rw [if_pos c212] at h
                                        rw [c212]
                                        refine wk_tabIn C (tgt := 143) (off := 142) dL_part_1 (by decide) (by decide) (by decide) (by decide) ?_
                                        refine wk_aload_n C dL_part_143 rfl rfl ?_
                                        refine wk_iload C dL_part_144 rfl ?_
                                        refine wk_iconst C (v := 2) dL_part_146 (by decide) ?_
                                        refine wk_iload_n C dL_part_147 rfl rfl ?_
                                        refine wk_imul C dL_part_148 rfl ?_
                                        refine wk_iconst C (v := 1) dL_part_149 (by decide) ?_
                                        refine wk_iadd C dL_part_150 rfl ?_
                                        refine wk_callW C hR (As := [.ref l3A, .int l4I, .int (((2 : Int32) * l1I) + (1 : Int32))]) (cnt := 3) (tL_drawn (l := l) harg hW hl3A h) rfl (wkGoodW (List.mem_of_getElem? (i := 1) rfl) (List.mem_of_getElem? (i := 2) rfl) (List.mem_of_getElem? (i := 3) rfl) hbL_part_L_drawn gdL_drawn) (Nat.le_trans (by decide : 1 + 1 ≤ 2) hd) (by decide) ⟨by decide, by decide, by decide +kernel⟩ rfl rfl (Nat.le_of_ble_eq_true rfl) (Nat.le_refl 0) (Nat.le_refl 0) dL_part_151 (fun v' S214 hp => ?_)
                                        obtain ⟨v213, rfl, h, hWS214, hXS214⟩ := hp
                                        refine wk_iload_n C dL_part_154 rfl rfl ?_
                                        refine wk_isub C dL_part_155 rfl ?_
                                        exact E _ _ _ _ _ _ (Nat.le_refl 0) (Nat.le_refl 0) dL_part_156 ⟨(v213 - l1I), rfl, h, hWS214, (wkExt.tr hE hXS214)⟩
                                      · rw [if_neg c212] at h
                                        by_cases c218 : l0I = 116
                                        · rw [if_pos c218] at h
                                          rw [c218]
                                          refine wk_tabIn C (tgt := 285) (off := 284) dL_part_1 (by decide) (by decide) (by decide) (by decide) ?_
                                          refine wk_aload_n C dL_part_285 rfl rfl ?_
                                          refine wk_iload C dL_part_286 rfl ?_
                                          refine wk_iload_n C dL_part_288 rfl rfl ?_
                                          refine wk_iconst C (v := 2) dL_part_289 (by decide) ?_
                                          refine wk_icmp_ge C (tgt := 297) dL_part_290 (by decide) (fun c219 => ?_) (fun c219 => ?_)
                                          · rw [if_pos c219] at h
                                            refine wk_bipush C (v := 7) dL_part_297 (by decide) ?_
                                            refine wk_callW C hR (As := [.ref l3A, .int l4I, .int (7 : Int32)]) (cnt := 3) (tL_drawn (l := l) harg hW hl3A h) rfl (wkGoodW (List.mem_of_getElem? (i := 1) rfl) (List.mem_of_getElem? (i := 2) rfl) (List.mem_of_getElem? (i := 3) rfl) hbL_part_L_drawn gdL_drawn) (Nat.le_trans (by decide : 1 + 1 ≤ 2) hd) (by decide) ⟨by decide, by decide, by decide +kernel⟩ rfl rfl (Nat.le_of_ble_eq_true rfl) (Nat.le_refl 0) (Nat.le_refl 0) dL_part_299 (fun v' S221 hp => ?_)
                                            obtain ⟨v220, rfl, h, hWS221, hXS221⟩ := hp
                                            exact E _ _ _ _ _ _ (Nat.le_refl 0) (Nat.le_refl 0) dL_part_302 ⟨v220, rfl, h, hWS221, (wkExt.tr hE hXS221)⟩
                                          · rw [if_neg c219] at h
                                            refine wk_iload_n C dL_part_293 rfl rfl ?_
                                            refine wk_goto C (tgt := 299) dL_part_294 (by decide) ?_
                                            refine wk_callW C hR (As := [.ref l3A, .int l4I, .int l1I]) (cnt := 3) (tL_drawn (l := l) harg hW hl3A h) rfl (wkGoodW (List.mem_of_getElem? (i := 1) rfl) (List.mem_of_getElem? (i := 2) rfl) (List.mem_of_getElem? (i := 3) rfl) hbL_part_L_drawn gdL_drawn) (Nat.le_trans (by decide : 1 + 1 ≤ 2) hd) (by decide) ⟨by decide, by decide, by decide +kernel⟩ rfl rfl (Nat.le_of_ble_eq_true rfl) (Nat.le_refl 0) (Nat.le_refl 0) dL_part_299 (fun v' S226 hp => ?_)
                                            obtain ⟨v225, rfl, h, hWS226, hXS226⟩ := hp
                                            exact E _ _ _ _ _ _ (Nat.le_refl 0) (Nat.le_refl 0) dL_part_302 ⟨v225, rfl, h, hWS226, (wkExt.tr hE hXS226)⟩
                                        · rw [if_neg c218] at h
                                          by_cases c230 : l0I = 117
                                          · rw [if_pos c230] at h
                                            rw [c230]
                                            refine wk_tabIn C (tgt := 285) (off := 284) dL_part_1 (by decide) (by decide) (by decide) (by decide) ?_
                                            refine wk_aload_n C dL_part_285 rfl rfl ?_
                                            refine wk_iload C dL_part_286 rfl ?_
                                            refine wk_iload_n C dL_part_288 rfl rfl ?_
                                            refine wk_iconst C (v := 2) dL_part_289 (by decide) ?_
                                            refine wk_icmp_ge C (tgt := 297) dL_part_290 (by decide) (fun c231 => ?_) (fun c231 => ?_)
                                            · rw [if_pos c231] at h
                                              refine wk_bipush C (v := 7) dL_part_297 (by decide) ?_
                                              refine wk_callW C hR (As := [.ref l3A, .int l4I, .int (7 : Int32)]) (cnt := 3) (tL_drawn (l := l) harg hW hl3A h) rfl (wkGoodW (List.mem_of_getElem? (i := 1) rfl) (List.mem_of_getElem? (i := 2) rfl) (List.mem_of_getElem? (i := 3) rfl) hbL_part_L_drawn gdL_drawn) (Nat.le_trans (by decide : 1 + 1 ≤ 2) hd) (by decide) ⟨by decide, by decide, by decide +kernel⟩ rfl rfl (Nat.le_of_ble_eq_true rfl) (Nat.le_refl 0) (Nat.le_refl 0) dL_part_299 (fun v' S233 hp => ?_)
                                              obtain ⟨v232, rfl, h, hWS233, hXS233⟩ := hp
                                              exact E _ _ _ _ _ _ (Nat.le_refl 0) (Nat.le_refl 0) dL_part_302 ⟨v232, rfl, h, hWS233, (wkExt.tr hE hXS233)⟩
                                            · rw [if_neg c231] at h
                                              refine wk_iload_n C dL_part_293 rfl rfl ?_
                                              refine wk_goto C (tgt := 299) dL_part_294 (by decide) ?_
                                              refine wk_callW C hR (As := [.ref l3A, .int l4I, .int l1I]) (cnt := 3) (tL_drawn (l := l) harg hW hl3A h) rfl (wkGoodW (List.mem_of_getElem? (i := 1) rfl) (List.mem_of_getElem? (i := 2) rfl) (List.mem_of_getElem? (i := 3) rfl) hbL_part_L_drawn gdL_drawn) (Nat.le_trans (by decide : 1 + 1 ≤ 2) hd) (by decide) ⟨by decide, by decide, by decide +kernel⟩ rfl rfl (Nat.le_of_ble_eq_true rfl) (Nat.le_refl 0) (Nat.le_refl 0) dL_part_299 (fun v' S238 hp => ?_)
                                              obtain ⟨v237, rfl, h, hWS238, hXS238⟩ := hp
                                              exact E _ _ _ _ _ _ (Nat.le_refl 0) (Nat.le_refl 0) dL_part_302 ⟨v237, rfl, h, hWS238, (wkExt.tr hE hXS238)⟩
                                          · rw [if_neg c230] at h
                                            by_cases c242 : l0I = 118
                                            · rw [if_pos c242] at h
                                              rw [c242]
                                              refine wk_tabIn C (tgt := 285) (off := 284) dL_part_1 (by decide) (by decide) (by decide) (by decide) ?_
                                              refine wk_aload_n C dL_part_285 rfl rfl ?_
                                              refine wk_iload C dL_part_286 rfl ?_
                                              refine wk_iload_n C dL_part_288 rfl rfl ?_
                                              refine wk_iconst C (v := 2) dL_part_289 (by decide) ?_
                                              refine wk_icmp_ge C (tgt := 297) dL_part_290 (by decide) (fun c243 => ?_) (fun c243 => ?_)
                                              · rw [if_pos c243] at h
                                                refine wk_bipush C (v := 7) dL_part_297 (by decide) ?_
                                                refine wk_callW C hR (As := [.ref l3A, .int l4I, .int (7 : Int32)]) (cnt := 3) (tL_drawn (l := l) harg hW hl3A h) rfl (wkGoodW (List.mem_of_getElem? (i := 1) rfl) (List.mem_of_getElem? (i := 2) rfl) (List.mem_of_getElem? (i := 3) rfl) hbL_part_L_drawn gdL_drawn) (Nat.le_trans (by decide : 1 + 1 ≤ 2) hd) (by decide) ⟨by decide, by decide, by decide +kernel⟩ rfl rfl (Nat.le_of_ble_eq_true rfl) (Nat.le_refl 0) (Nat.le_refl 0) dL_part_299 (fun v' S245 hp => ?_)
                                                obtain ⟨v244, rfl, h, hWS245, hXS245⟩ := hp
                                                exact E _ _ _ _ _ _ (Nat.le_refl 0) (Nat.le_refl 0) dL_part_302 ⟨v244, rfl, h, hWS245, (wkExt.tr hE hXS245)⟩
                                              · rw [if_neg c243] at h
                                                refine wk_iload_n C dL_part_293 rfl rfl ?_
                                                refine wk_goto C (tgt := 299) dL_part_294 (by decide) ?_
                                                refine wk_callW C hR (As := [.ref l3A, .int l4I, .int l1I]) (cnt := 3) (tL_drawn (l := l) harg hW hl3A h) rfl (wkGoodW (List.mem_of_getElem? (i := 1) rfl) (List.mem_of_getElem? (i := 2) rfl) (List.mem_of_getElem? (i := 3) rfl) hbL_part_L_drawn gdL_drawn) (Nat.le_trans (by decide : 1 + 1 ≤ 2) hd) (by decide) ⟨by decide, by decide, by decide +kernel⟩ rfl rfl (Nat.le_of_ble_eq_true rfl) (Nat.le_refl 0) (Nat.le_refl 0) dL_part_299 (fun v' S250 hp => ?_)
                                                obtain ⟨v249, rfl, h, hWS250, hXS250⟩ := hp
                                                exact E _ _ _ _ _ _ (Nat.le_refl 0) (Nat.le_refl 0) dL_part_302 ⟨v249, rfl, h, hWS250, (wkExt.tr hE hXS250)⟩
                                            · rw [if_neg c242] at h
                                              by_cases c254 : l0I = 119
                                              · rw [if_pos c254] at h
                                                rw [c254]
                                                refine wk_tabIn C (tgt := 200) (off := 199) dL_part_1 (by decide) (by decide) (by decide) (by decide) ?_
                                                refine wk_iconst C (v := 1) dL_part_200 (by decide) ?_
                                                refine wk_aload_n C dL_part_201 rfl rfl ?_
                                                refine wk_iload C dL_part_202 rfl ?_
                                                refine wk_bipush C (v := 31) dL_part_204 (by decide) ?_
                                                refine wk_callW C hR (As := [.ref l3A, .int l4I, .int (31 : Int32)]) (cnt := 3) (tL_drawn (l := l) harg hW hl3A h) rfl (wkGoodW (List.mem_of_getElem? (i := 1) rfl) (List.mem_of_getElem? (i := 2) rfl) (List.mem_of_getElem? (i := 3) rfl) hbL_part_L_drawn gdL_drawn) (Nat.le_trans (by decide : 1 + 1 ≤ 2) hd) (by decide) ⟨by decide, by decide, by decide +kernel⟩ rfl rfl (Nat.le_of_ble_eq_true rfl) (Nat.le_refl 0) (Nat.le_refl 0) dL_part_206 (fun v' S256 hp => ?_)
                                                obtain ⟨v255, rfl, h, hWS256, hXS256⟩ := hp
                                                refine wk_iadd C dL_part_209 rfl ?_
                                                exact E _ _ _ _ _ _ (Nat.le_refl 0) (Nat.le_refl 0) dL_part_210 ⟨((1 : Int32) + v255), rfl, h, hWS256, (wkExt.tr hE hXS256)⟩
                                              · rw [if_neg c254] at h
                                                by_cases c260 : l0I = 120
                                                · rw [if_pos c260] at h
                                                  rw [c260]
                                                  refine wk_tabIn C (tgt := 228) (off := 227) dL_part_1 (by decide) (by decide) (by decide) (by decide) ?_
                                                  refine wk_iload_n C dL_part_228 rfl rfl ?_
                                                  refine wk_if_ne C (tgt := 242) dL_part_229 (by decide) (fun c261 => ?_) (fun c261 => ?_)
                                                  · rw [if_neg c261] at h
                                                    refine wk_iload_n C dL_part_242 rfl rfl ?_
                                                    refine wk_iconst C (v := 1) dL_part_243 (by decide) ?_
                                                    refine wk_icmp_ne C (tgt := 258) dL_part_244 (by decide) (fun c262 => ?_) (fun c262 => ?_)
                                                    · rw [if_neg c262] at h
                                                      refine wk_iload_n C dL_part_258 rfl rfl ?_
                                                      refine wk_iconst C (v := 2) dL_part_259 (by decide) ?_
                                                      refine wk_icmp_ne C (tgt := 273) dL_part_260 (by decide) (fun c263 => ?_) (fun c263 => ?_)
                                                      · rw [if_neg c263] at h
                                                        refine wk_aload_n C dL_part_273 rfl rfl ?_
                                                        refine wk_iload C dL_part_274 rfl ?_
                                                        refine wk_iload_n C dL_part_276 rfl rfl ?_
                                                        refine wk_iconst C (v := 1) dL_part_277 (by decide) ?_
                                                        refine wk_iadd C dL_part_278 rfl ?_
                                                        refine wk_callW C hR (As := [.ref l3A, .int l4I, .int (l1I + (1 : Int32))]) (cnt := 3) (tL_drawn (l := l) harg hW hl3A h) rfl (wkGoodW (List.mem_of_getElem? (i := 1) rfl) (List.mem_of_getElem? (i := 2) rfl) (List.mem_of_getElem? (i := 3) rfl) hbL_part_L_drawn gdL_drawn) (Nat.le_trans (by decide : 1 + 1 ≤ 2) hd) (by decide) ⟨by decide, by decide, by decide +kernel⟩ rfl rfl (Nat.le_of_ble_eq_true rfl) (Nat.le_refl 0) (Nat.le_refl 0) dL_part_279 (fun v' S265 hp => ?_)
                                                        obtain ⟨v264, rfl, h, hWS265, hXS265⟩ := hp
                                                        refine wk_iconst C (v := 1) dL_part_282 (by decide) ?_
                                                        refine wk_isub C dL_part_283 rfl ?_
                                                        exact E _ _ _ _ _ _ (Nat.le_refl 0) (Nat.le_refl 0) dL_part_284 ⟨(v264 - (1 : Int32)), rfl, h, hWS265, (wkExt.tr hE hXS265)⟩
                                                      · rw [if_pos c263] at h
                                                        refine wk_aload_n C dL_part_263 rfl rfl ?_
                                                        refine wk_iload C dL_part_264 rfl ?_
                                                        refine wk_iload_n C dL_part_266 rfl rfl ?_
                                                        refine wk_callW C hR (As := [.ref l3A, .int l4I, .int l1I]) (cnt := 3) (tL_drawn (l := l) harg hW hl3A h) rfl (wkGoodW (List.mem_of_getElem? (i := 1) rfl) (List.mem_of_getElem? (i := 2) rfl) (List.mem_of_getElem? (i := 3) rfl) hbL_part_L_drawn gdL_drawn) (Nat.le_trans (by decide : 1 + 1 ≤ 2) hd) (by decide) ⟨by decide, by decide, by decide +kernel⟩ rfl rfl (Nat.le_of_ble_eq_true rfl) (Nat.le_refl 0) (Nat.le_refl 0) dL_part_267 (fun v' S270 hp => ?_)
                                                        obtain ⟨v269, rfl, h, hWS270, hXS270⟩ := hp
                                                        refine wk_goto C (tgt := 284) dL_part_270 (by decide) ?_
                                                        exact E _ _ _ _ _ _ (Nat.le_refl 0) (Nat.le_refl 0) dL_part_284 ⟨v269, rfl, h, hWS270, (wkExt.tr hE hXS270)⟩
                                                    · rw [if_pos c262] at h
                                                      refine wk_aload_n C dL_part_247 rfl rfl ?_
                                                      refine wk_iload C dL_part_248 rfl ?_
                                                      refine wk_bipush C (v := 6) dL_part_250 (by decide) ?_
                                                      refine wk_callW C hR (As := [.ref l3A, .int l4I, .int (6 : Int32)]) (cnt := 3) (tL_drawn (l := l) harg hW hl3A h) rfl (wkGoodW (List.mem_of_getElem? (i := 1) rfl) (List.mem_of_getElem? (i := 2) rfl) (List.mem_of_getElem? (i := 3) rfl) hbL_part_L_drawn gdL_drawn) (Nat.le_trans (by decide : 1 + 1 ≤ 2) hd) (by decide) ⟨by decide, by decide, by decide +kernel⟩ rfl rfl (Nat.le_of_ble_eq_true rfl) (Nat.le_refl 0) (Nat.le_refl 0) dL_part_252 (fun v' S275 hp => ?_)
                                                      obtain ⟨v274, rfl, h, hWS275, hXS275⟩ := hp
                                                      refine wk_goto C (tgt := 284) dL_part_255 (by decide) ?_
                                                      exact E _ _ _ _ _ _ (Nat.le_refl 0) (Nat.le_refl 0) dL_part_284 ⟨v274, rfl, h, hWS275, (wkExt.tr hE hXS275)⟩
                                                  · rw [if_pos c261] at h
                                                    refine wk_aload_n C dL_part_232 rfl rfl ?_
                                                    refine wk_iload C dL_part_233 rfl ?_
                                                    refine wk_iconst C (v := 2) dL_part_235 (by decide) ?_
                                                    refine wk_callW C hR (As := [.ref l3A, .int l4I, .int (2 : Int32)]) (cnt := 3) (tL_drawn (l := l) harg hW hl3A h) rfl (wkGoodW (List.mem_of_getElem? (i := 1) rfl) (List.mem_of_getElem? (i := 2) rfl) (List.mem_of_getElem? (i := 3) rfl) hbL_part_L_drawn gdL_drawn) (Nat.le_trans (by decide : 1 + 1 ≤ 2) hd) (by decide) ⟨by decide, by decide, by decide +kernel⟩ rfl rfl (Nat.le_of_ble_eq_true rfl) (Nat.le_refl 0) (Nat.le_refl 0) dL_part_236 (fun v' S280 hp => ?_)
                                                    obtain ⟨v279, rfl, h, hWS280, hXS280⟩ := hp
                                                    refine wk_goto C (tgt := 284) dL_part_239 (by decide) ?_
                                                    exact E _ _ _ _ _ _ (Nat.le_refl 0) (Nat.le_refl 0) dL_part_284 ⟨v279, rfl, h, hWS280, (wkExt.tr hE hXS280)⟩
                                                · rw [if_neg c260] at h
                                                  refine wk_tabOut C (tgt := 285) dL_part_1 (wkOut (fun z h1 h2 e => by
                                                      have hz : z = 97 ∨ z = 98 ∨ z = 99 ∨ z = 100 ∨ z = 101 ∨ z = 102 ∨ z = 103 ∨ z = 104 ∨ z = 105 ∨ z = 106 ∨ z = 107 ∨ z = 108 ∨ z = 109 ∨ z = 110 ∨ z = 111 ∨ z = 112 ∨ z = 113 ∨ z = 114 ∨ z = 115 ∨ z = 116 ∨ z = 117 ∨ z = 118 ∨ z = 119 ∨ z = 120 := by omega
                                                      rcases hz with rfl | rfl | rfl | rfl | rfl | rfl | rfl | rfl | rfl | rfl | rfl | rfl | rfl | rfl | rfl | rfl | rfl | rfl | rfl | rfl | rfl | rfl | rfl | rfl
                                                      · exact c2 e
                                                      · exact c14 e
                                                      · exact c26 e
                                                      · exact c38 e
                                                      · exact c50 e
                                                      · exact c62 e
                                                      · exact c74 e
                                                      · exact c86 e
                                                      · exact c98 e
                                                      · exact c110 e
                                                      · exact c122 e
                                                      · exact c134 e
                                                      · exact c146 e
                                                      · exact c158 e
                                                      · exact c170 e
                                                      · exact c182 e
                                                      · exact c194 e
                                                      · exact c206 e
                                                      · exact c212 e
                                                      · exact c218 e
                                                      · exact c230 e
                                                      · exact c242 e
                                                      · exact c254 e
                                                      · exact c260 e)) (by decide) ?_
                                                  refine wk_aload_n C dL_part_285 rfl rfl ?_
                                                  refine wk_iload C dL_part_286 rfl ?_
                                                  refine wk_iload_n C dL_part_288 rfl rfl ?_
                                                  refine wk_iconst C (v := 2) dL_part_289 (by decide) ?_
                                                  refine wk_icmp_ge C (tgt := 297) dL_part_290 (by decide) (fun c284 => ?_) (fun c284 => ?_)
                                                  · rw [if_pos c284] at h
                                                    refine wk_bipush C (v := 7) dL_part_297 (by decide) ?_
                                                    refine wk_callW C hR (As := [.ref l3A, .int l4I, .int (7 : Int32)]) (cnt := 3) (tL_drawn (l := l) harg hW hl3A h) rfl (wkGoodW (List.mem_of_getElem? (i := 1) rfl) (List.mem_of_getElem? (i := 2) rfl) (List.mem_of_getElem? (i := 3) rfl) hbL_part_L_drawn gdL_drawn) (Nat.le_trans (by decide : 1 + 1 ≤ 2) hd) (by decide) ⟨by decide, by decide, by decide +kernel⟩ rfl rfl (Nat.le_of_ble_eq_true rfl) (Nat.le_refl 0) (Nat.le_refl 0) dL_part_299 (fun v' S286 hp => ?_)
                                                    obtain ⟨v285, rfl, h, hWS286, hXS286⟩ := hp
                                                    exact E _ _ _ _ _ _ (Nat.le_refl 0) (Nat.le_refl 0) dL_part_302 ⟨v285, rfl, h, hWS286, (wkExt.tr hE hXS286)⟩
                                                  · rw [if_neg c284] at h
                                                    refine wk_iload_n C dL_part_293 rfl rfl ?_
                                                    refine wk_goto C (tgt := 299) dL_part_294 (by decide) ?_
                                                    refine wk_callW C hR (As := [.ref l3A, .int l4I, .int l1I]) (cnt := 3) (tL_drawn (l := l) harg hW hl3A h) rfl (wkGoodW (List.mem_of_getElem? (i := 1) rfl) (List.mem_of_getElem? (i := 2) rfl) (List.mem_of_getElem? (i := 3) rfl) hbL_part_L_drawn gdL_drawn) (Nat.le_trans (by decide : 1 + 1 ≤ 2) hd) (by decide) ⟨by decide, by decide, by decide +kernel⟩ rfl rfl (Nat.le_of_ble_eq_true rfl) (Nat.le_refl 0) (Nat.le_refl 0) dL_part_299 (fun v' S291 hp => ?_)
                                                    obtain ⟨v290, rfl, h, hWS291, hXS291⟩ := hp
                                                    exact E _ _ _ _ _ _ (Nat.le_refl 0) (Nat.le_refl 0) dL_part_302 ⟨v290, rfl, h, hWS291, (wkExt.tr hE hXS291)⟩
