def wvX8_readPrime : List Cond := .code yX8_readPrime cX8_readPrime 11 (some .int) :: (([.fieldLink RX8 135 "Witnessworks$Row" "count" "I", .methodLink RX8 67 yX9_at, .instanceMethod yX9_at, .selects RX9 yX9_at yX9_at, .initialized RX9, .methodLink RX8 159 yX8_readPrime, .static yX8_readPrime, .initialized RX8, .methodLink RX8 148 yX8_withoutDivisor, .static yX8_withoutDivisor, .static yX11_restOfPower, .initialized RX11] : List Cond) ++ ((wsX90) ++ (wvX9_at ++ (wvX8_withoutDivisor ++ (wvX11_restOfPower)))))
theorem huX8_readPrime_9 : ∀ w ∈ u_ws RX9 TX9 2, w ∈ wvX8_readPrime := fun w h => List.mem_cons_of_mem _ (List.mem_append_right _ (List.mem_append_left _ h))
theorem hbX8_readPrime_X9_at : ∀ w ∈ wvX9_at, w ∈ wvX8_readPrime := fun w h => List.mem_cons_of_mem _ (List.mem_append_right _ (List.mem_append_right _ (List.mem_append_left _ h)))
theorem hbX8_readPrime_X8_withoutDivisor : ∀ w ∈ wvX8_withoutDivisor, w ∈ wvX8_readPrime := fun w h => List.mem_cons_of_mem _ (List.mem_append_right _ (List.mem_append_right _ (List.mem_append_right _ (List.mem_append_left _ h))))
theorem hbX8_readPrime_X11_restOfPower : ∀ w ∈ wvX11_restOfPower, w ∈ wvX8_readPrime := fun w h => List.mem_cons_of_mem _ (List.mem_append_right _ (List.mem_append_right _ (List.mem_append_right _ (List.mem_append_right _ h))))
theorem gdX8_readPrime : ∀ w ∈ wvX8_readPrime, wkGd w := wkGdC rfl (wkGdA (wkGdL (by decide +kernel)) (wkGdA gdX9 (wkGdA gdX9_at (wkGdA gdX8_withoutDivisor gdX11_restOfPower))))
def rX8_readPrime_b0 (F : Nat) (rc : Nat → Int32 → Int32 → Int32 → wPS → (Int32 → wPS → Prop) → Prop) (rec : Nat → Nat → Int32 → Int32 → Int32 → Int32 → Int32 → Int32 → Int32 → Int32 → wPS → (Int32 → wPS → Prop) → Prop) (l0A : Nat) (l2I : Int32) (l3I : Int32) (l4I : Int32) (l5I : Int32) (l6I : Int32) (l7I : Int32) (l8I : Int32) (l9I : Int32) (S : wPS) (Φ : (Int32 → wPS → Prop)) : Prop :=
  if (40 : Int32) ≤ l9I then (if l8I = (1 : Int32) then (Φ l6I S) else (Φ (-1 : Int32) S)) else (if l8I = (1 : Int32) then (if l8I = (1 : Int32) then (Φ l6I S) else (Φ (-1 : Int32) S)) else (if (gRow_count S l0A) ≤ l6I then (if l8I = (1 : Int32) then (Φ l6I S) else (Φ (-1 : Int32) S)) else (rX9_at F l0A l6I S fun v7 S8 => if v7 ≤ l7I then (Φ (-1 : Int32) S8) else (¬ v7 = 0 ∧ if (l8I - l8I / v7 * v7) = 0 then (if l3I = 0 then (rc l0A l6I (l2I + (1 : Int32)) l3I S8 fun v16 S17 => if 0 ≤ v16 then (rX8_withoutDivisor F l8I v7 S17 fun v22 S23 => wkLt (l9I + (1 : Int32)) fun x27 => rec 0 l0A l2I l3I l4I l5I v16 v7 v22 x27 S23 Φ) else (Φ (-1 : Int32) S17)) else (¬ v7 = 0 ∧ rX11_restOfPower F l5I ((l4I - (1 : Int32)) / v7) l4I S8 fun v29 S30 => if v29 = (1 : Int32) then (Φ (-1 : Int32) S30) else (rc l0A l6I (l2I + (1 : Int32)) l3I S30 fun v35 S36 => if 0 ≤ v35 then (rX8_withoutDivisor F l8I v7 S36 fun v41 S42 => wkLt (l9I + (1 : Int32)) fun x46 => rec 0 l0A l2I l3I l4I l5I v35 v7 v41 x46 S42 Φ) else (Φ (-1 : Int32) S36)))) else (Φ (-1 : Int32) S8)))))
def rX8_readPrime_go (F : Nat) (rc : Nat → Int32 → Int32 → Int32 → wPS → (Int32 → wPS → Prop) → Prop) : Nat → Nat → Nat → Int32 → Int32 → Int32 → Int32 → Int32 → Int32 → Int32 → Int32 → wPS → (Int32 → wPS → Prop) → Prop
  | 0, _, _, _, _, _, _, _, _, _, _, _, _ => False
  | k' + 1, lab, l0A, l2I, l3I, l4I, l5I, l6I, l7I, l8I, l9I, S, Φ => if lab = 0 then rX8_readPrime_b0 F rc (rX8_readPrime_go F rc k') l0A l2I l3I l4I l5I l6I l7I l8I l9I S Φ else False
def rX8_readPrime_s (F : Nat) (rc : Nat → Int32 → Int32 → Int32 → wPS → (Int32 → wPS → Prop) → Prop) (rec : Nat → Nat → Int32 → Int32 → Int32 → Int32 → Int32 → Int32 → Int32 → Int32 → wPS → (Int32 → wPS → Prop) → Prop) (l0A : Nat) (l1I : Int32) (l2I : Int32) (l3I : Int32) (S : wPS) (Φ : (Int32 → wPS → Prop)) : Prop :=
  rX9_at F l0A l1I S fun v47 S48 => if (gRow_count S48 l0A) ≤ l1I then (Φ (-1 : Int32) S48) else (if v47 < (2 : Int32) then (Φ (-1 : Int32) S48) else (if l2I ≤ (40 : Int32) then (if v47 = (2 : Int32) then (Φ (l1I + (1 : Int32)) S48) else (rX9_at F l0A (l1I + (1 : Int32)) S48 fun v56 S57 => if v56 < (1 : Int32) then (Φ (-1 : Int32) S57) else (if v47 ≤ v56 then (Φ (-1 : Int32) S57) else (if l3I = 0 then (wkLt ((l1I + (2 : Int32))) fun x64 => wkLt ((v47 - (1 : Int32))) fun x65 => rec 0 l0A l2I l3I v47 v56 x64 (1 : Int32) x65 (0 : Int32) S57 Φ) else (rX11_restOfPower F v56 (v47 - (1 : Int32)) v47 S57 fun v66 S67 => if v66 = (1 : Int32) then (wkLt ((l1I + (2 : Int32))) fun x72 => wkLt ((v47 - (1 : Int32))) fun x73 => rec 0 l0A l2I l3I v47 v56 x72 (1 : Int32) x73 (0 : Int32) S67 Φ) else (Φ (-1 : Int32) S67)))))) else (Φ (-1 : Int32) S48)))
def rX8_readPrime_a (F : Nat) (rc : Nat → Int32 → Int32 → Int32 → wPS → (Int32 → wPS → Prop) → Prop) (l0A : Nat) (l1I : Int32) (l2I : Int32) (l3I : Int32) (S : wPS) (Φ : (Int32 → wPS → Prop)) : Prop := rX8_readPrime_s F rc (rX8_readPrime_go F rc F) l0A l1I l2I l3I S Φ
def rX8_readPrime (F : Nat) : Nat → Nat → Int32 → Int32 → Int32 → wPS → (Int32 → wPS → Prop) → Prop
  | 0, _, _, _, _, _, _ => False
  | j + 1, l0A, l1I, l2I, l3I, S, Φ => rX8_readPrime_a F (rX8_readPrime F j) l0A l1I l2I l3I S Φ
set_option maxHeartbeats 4000000 in
set_option maxRecDepth 100000 in
theorem tX8_readPrime_go {d0 : Nat} {rc : Nat → Int32 → Int32 → Int32 → wPS → (Int32 → wPS → Prop) → Prop} {l : Launch} {X : wkX} {d F : Nat} {S0 : wPS} {Φ : (Int32 → wPS → Prop)} (C : wkC X cX8_readPrime RX8 11 wvX8_readPrime) (hR : wkRm X d 0 0) (hd : 1 ≤ d) (hrc : ∀ (l0A : Nat) (l1I : Int32) (l2I : Int32) (l3I : Int32) (S : wPS) (Φ : (Int32 → wPS → Prop)), wkWF S → wkIs S l0A 9 → rc l0A l1I l2I l3I S Φ → wkMet l (wkXg X) yX8_readPrime wvX8_readPrime d0 0 0 [.ref l0A, .int l1I, .int l2I, .int l3I] S (fun v' S'' => ∃ v : Int32, v' = some (.int v) ∧ Φ v S'' ∧ wkWF S'' ∧ wkExt S S'')) (hd0 : d0 + 1 ≤ d) (E : wkEnd l X cX8_readPrime 11 (some .int) 0 0 (fun v' S'' => ∃ v : Int32, v' = some (.int v) ∧ Φ v S'' ∧ wkWF S'' ∧ wkExt S0 S'')) : ∀ k' : Nat, (∀ (l0A : Nat) (l2I : Int32) (l3I : Int32) (l4I : Int32) (l5I : Int32) (l6I : Int32) (l7I : Int32) (l8I : Int32) (l9I : Int32) (S : wPS), wkWF S → wkExt S0 S → wkIs S l0A 9 → rX8_readPrime_go F rc k' 0 l0A l2I l3I l4I l5I l6I l7I l8I l9I S Φ → wkGo l X 11 0 0 99 S [some (.ref l0A), none, some (.int l2I), some (.int l3I), some (.int l4I), some (.int l5I), some (.int l6I), some (.int l7I), some (.int l8I), some (.int l9I), none] []) := by
  intro k'
  induction k' with
  | zero => exact fun l0A l2I l3I l4I l5I l6I l7I l8I l9I S hW hE hl0A h => h.elim
  | succ k' ih =>
    · intro l0A l2I l3I l4I l5I l6I l7I l8I l9I S hW hE hl0A h
      have h : rX8_readPrime_b0 F rc (rX8_readPrime_go F rc k') l0A l2I l3I l4I l5I l6I l7I l8I l9I S Φ := by
        rw [rX8_readPrime_go, if_pos (rfl : (0 : Nat) = 0)] at h
        exact h
      unfold rX8_readPrime_b0 at h
      refine wk_iload C dX8_readPrime_99 rfl ?_
      refine wk_bipush C (v := 40) dX8_readPrime_101 (by decide) ?_
      refine wk_icmp_ge C (tgt := 208) dX8_readPrime_103 (by decide) (fun c1 => ?_) (fun c1 => ?_)
      · rw [if_pos c1] at h
        refine wk_iload C dX8_readPrime_208 rfl ?_
        refine wk_iconst C (v := 1) dX8_readPrime_210 (by decide) ?_
        refine wk_icmp_ne C (tgt := 219) dX8_readPrime_211 (by decide) (fun c2 => ?_) (fun c2 => ?_)
        · rw [if_neg c2] at h
          refine wk_iconst C (v := (-1)) dX8_readPrime_219 (by decide) ?_
          exact E _ _ _ _ _ _ (Nat.le_refl 0) (Nat.le_refl 0) dX8_readPrime_220 ⟨(-1 : Int32), rfl, h, hW, hE⟩
        · rw [if_pos c2] at h
          refine wk_iload C dX8_readPrime_214 rfl ?_
          refine wk_goto C (tgt := 220) dX8_readPrime_216 (by decide) ?_
          exact E _ _ _ _ _ _ (Nat.le_refl 0) (Nat.le_refl 0) dX8_readPrime_220 ⟨l6I, rfl, h, hW, hE⟩
      · rw [if_neg c1] at h
        refine wk_iload C dX8_readPrime_106 rfl ?_
        refine wk_iconst C (v := 1) dX8_readPrime_108 (by decide) ?_
        refine wk_icmp_eq C (tgt := 208) dX8_readPrime_109 (by decide) (fun c3 => ?_) (fun c3 => ?_)
        · rw [if_pos c3] at h
          refine wk_iload C dX8_readPrime_208 rfl ?_
          refine wk_iconst C (v := 1) dX8_readPrime_210 (by decide) ?_
          refine wk_icmp_ne C (tgt := 219) dX8_readPrime_211 (by decide) (fun c4 => ?_) (fun c4 => ?_)
          · rw [if_neg c4] at h
            refine wk_iconst C (v := (-1)) dX8_readPrime_219 (by decide) ?_
            exact E _ _ _ _ _ _ (Nat.le_refl 0) (Nat.le_refl 0) dX8_readPrime_220 ⟨(-1 : Int32), rfl, h, hW, hE⟩
          · rw [if_pos c4] at h
            refine wk_iload C dX8_readPrime_214 rfl ?_
            refine wk_goto C (tgt := 220) dX8_readPrime_216 (by decide) ?_
            exact E _ _ _ _ _ _ (Nat.le_refl 0) (Nat.le_refl 0) dX8_readPrime_220 ⟨l6I, rfl, h, hW, hE⟩
        · rw [if_neg c3] at h
          refine wk_iload C dX8_readPrime_112 rfl ?_
          refine wk_aload_n C dX8_readPrime_114 rfl rfl ?_
          refine wk_get C (v := .int (gRow_count S l0A)) huX8_readPrime_9 hl0A.1 (fun cy => wAt_9 cy _ hl0A.2) rfl 1 (by decide) (List.mem_of_getElem? (i := 1) rfl) rfl rfl dX8_readPrime_115 ?_
          refine wk_icmp_ge C (tgt := 208) dX8_readPrime_118 (by decide) (fun c5 => ?_) (fun c5 => ?_)
          · rw [if_pos c5] at h
            refine wk_iload C dX8_readPrime_208 rfl ?_
            refine wk_iconst C (v := 1) dX8_readPrime_210 (by decide) ?_
            refine wk_icmp_ne C (tgt := 219) dX8_readPrime_211 (by decide) (fun c6 => ?_) (fun c6 => ?_)
            · rw [if_neg c6] at h
              refine wk_iconst C (v := (-1)) dX8_readPrime_219 (by decide) ?_
              exact E _ _ _ _ _ _ (Nat.le_refl 0) (Nat.le_refl 0) dX8_readPrime_220 ⟨(-1 : Int32), rfl, h, hW, hE⟩
            · rw [if_pos c6] at h
              refine wk_iload C dX8_readPrime_214 rfl ?_
              refine wk_goto C (tgt := 220) dX8_readPrime_216 (by decide) ?_
              exact E _ _ _ _ _ _ (Nat.le_refl 0) (Nat.le_refl 0) dX8_readPrime_220 ⟨l6I, rfl, h, hW, hE⟩
          · rw [if_neg c5] at h
            refine wk_aload_n C dX8_readPrime_121 rfl rfl ?_
            refine wk_iload C dX8_readPrime_122 rfl ?_
            refine wk_callV C hR (As := [.int l6I]) (cnt := 1) (tX9_at (l := l) hW hl0A h) rfl (wkGoodV (List.mem_of_getElem? (i := 2) rfl) (List.mem_of_getElem? (i := 3) rfl) (List.mem_of_getElem? (i := 4) rfl) (List.mem_of_getElem? (i := 5) rfl) hbX8_readPrime_X9_at gdX9_at) (Nat.le_trans (by decide : 0 + 1 ≤ 1) hd) (by decide) hl0A.1 (fun cy => wAt_9 cy _ hl0A.2) rfl ⟨by decide, by decide, by decide +kernel⟩ rfl rfl (Nat.le_of_ble_eq_true rfl) (Nat.le_refl 0) (Nat.le_refl 0) dX8_readPrime_124 (fun v' S8 hp => ?_)
            obtain ⟨v7, rfl, h, hWS8, hXS8⟩ := hp
            refine wk_istore C (lv' := [some (.ref l0A), none, some (.int l2I), some (.int l3I), some (.int l4I), some (.int l5I), some (.int l6I), some (.int l7I), some (.int l8I), some (.int l9I), some (.int v7)]) dX8_readPrime_127 (by decide) rfl ?_
            refine wk_iload C dX8_readPrime_129 rfl ?_
            refine wk_iload C dX8_readPrime_131 rfl ?_
            refine wk_icmp_le C (tgt := 144) dX8_readPrime_133 (by decide) (fun c12 => ?_) (fun c12 => ?_)
            · rw [if_pos c12] at h
              refine wk_iconst C (v := (-1)) dX8_readPrime_144 (by decide) ?_
              exact E _ _ _ _ _ _ (Nat.le_refl 0) (Nat.le_refl 0) dX8_readPrime_145 ⟨(-1 : Int32), rfl, h, hWS8, (wkExt.tr hE hXS8)⟩
            · rw [if_neg c12] at h
              refine wk_iload C dX8_readPrime_136 rfl ?_
              refine wk_iload C dX8_readPrime_138 rfl ?_
              obtain ⟨z13, h⟩ := h
              refine wk_irem C dX8_readPrime_140 z13 rfl ?_
              refine wk_if_eq C (tgt := 146) dX8_readPrime_141 (by decide) (fun c14 => ?_) (fun c14 => ?_)
              · rw [if_pos c14] at h
                refine wk_iload_n C dX8_readPrime_146 rfl rfl ?_
                refine wk_if_eq C (tgt := 170) dX8_readPrime_147 (by decide) (fun c15 => ?_) (fun c15 => ?_)
                · rw [if_pos c15] at h
                  refine wk_aload_n C dX8_readPrime_170 rfl rfl ?_
                  refine wk_iload C dX8_readPrime_171 rfl ?_
                  refine wk_iload_n C dX8_readPrime_173 rfl rfl ?_
                  refine wk_iconst C (v := 1) dX8_readPrime_174 (by decide) ?_
                  refine wk_iadd C dX8_readPrime_175 rfl ?_
                  refine wk_iload_n C dX8_readPrime_176 rfl rfl ?_
                  refine wk_callW C hR (As := [.ref l0A, .int l6I, .int (l2I + (1 : Int32)), .int l3I]) (cnt := 4) (hrc _ _ _ _ _ _ hWS8 (hXS8 _ _ hl0A) h) rfl (wkGoodW (List.mem_of_getElem? (i := 6) rfl) (List.mem_of_getElem? (i := 7) rfl) (List.mem_of_getElem? (i := 8) rfl) (fun w h => h) gdX8_readPrime) hd0 (by decide) ⟨by decide, by decide, by decide +kernel⟩ rfl rfl (Nat.le_of_ble_eq_true rfl) (Nat.le_refl 0) (Nat.le_refl 0) dX8_readPrime_177 (fun v' S17 hp => ?_)
                  obtain ⟨v16, rfl, h, hWS17, hXS17⟩ := hp
                  refine wk_istore C (lv' := [some (.ref l0A), none, some (.int l2I), some (.int l3I), some (.int l4I), some (.int l5I), some (.int v16), some (.int l7I), some (.int l8I), some (.int l9I), some (.int v7)]) dX8_readPrime_180 (by decide) rfl ?_
                  refine wk_iload C dX8_readPrime_182 rfl ?_
                  refine wk_if_ge C (tgt := 189) dX8_readPrime_184 (by decide) (fun c21 => ?_) (fun c21 => ?_)
                  · rw [if_pos c21] at h
                    refine wk_iload C dX8_readPrime_189 rfl ?_
                    refine wk_istore C (lv' := [some (.ref l0A), none, some (.int l2I), some (.int l3I), some (.int l4I), some (.int l5I), some (.int v16), some (.int v7), some (.int l8I), some (.int l9I), some (.int v7)]) dX8_readPrime_191 (by decide) rfl ?_
                    refine wk_iload C dX8_readPrime_193 rfl ?_
                    refine wk_iload C dX8_readPrime_195 rfl ?_
                    refine wk_callW C hR (As := [.int l8I, .int v7]) (cnt := 2) (tX8_withoutDivisor (l := l) hWS17  h) rfl (wkGoodW (List.mem_of_getElem? (i := 9) rfl) (List.mem_of_getElem? (i := 10) rfl) (List.mem_of_getElem? (i := 8) rfl) hbX8_readPrime_X8_withoutDivisor gdX8_withoutDivisor) (Nat.le_trans (by decide : 0 + 1 ≤ 1) hd) (by decide) ⟨by decide, by decide, by decide +kernel⟩ rfl rfl (Nat.le_of_ble_eq_true rfl) (Nat.le_refl 0) (Nat.le_refl 0) dX8_readPrime_197 (fun v' S23 hp => ?_)
                    obtain ⟨v22, rfl, h, hWS23, hXS23⟩ := hp
                    refine wk_istore C (lv' := [some (.ref l0A), none, some (.int l2I), some (.int l3I), some (.int l4I), some (.int l5I), some (.int v16), some (.int v7), some (.int v22), some (.int l9I), some (.int v7)]) dX8_readPrime_200 (by decide) rfl ?_
                    obtain ⟨x27, ex27, h⟩ := wkLt_some h
                    refine wk_iinc C (lv' := [some (.ref l0A), none, some (.int l2I), some (.int l3I), some (.int l4I), some (.int l5I), some (.int v16), some (.int v7), some (.int v22), some (.int x27), some (.int v7)]) dX8_readPrime_202 rfl (by rw [ex27]; rfl) (by decide) rfl ?_
                    refine wk_goto C (tgt := 99) dX8_readPrime_205 (by decide) ?_
                    exact wk_forget (lv' := [some (.ref l0A), none, some (.int l2I), some (.int l3I), some (.int l4I), some (.int l5I), some (.int v16), some (.int v7), some (.int v22), some (.int x27), none]) (wkLs.le ⟨rfl, rfl, rfl, rfl, rfl, rfl, rfl, rfl, rfl, trivial⟩) (ih _ _ _ _ _ _ _ _ _ _ hWS23 (wkExt.tr (wkExt.tr (wkExt.tr hE hXS8) hXS17) hXS23) (hXS23 _ _ (hXS17 _ _ (hXS8 _ _ hl0A))) h)
                  · rw [if_neg c21] at h
                    refine wk_iconst C (v := (-1)) dX8_readPrime_187 (by decide) ?_
                    exact E _ _ _ _ _ _ (Nat.le_refl 0) (Nat.le_refl 0) dX8_readPrime_188 ⟨(-1 : Int32), rfl, h, hWS17, (wkExt.tr (wkExt.tr hE hXS8) hXS17)⟩
                · rw [if_neg c15] at h
                  refine wk_iload C dX8_readPrime_150 rfl ?_
                  refine wk_iload C dX8_readPrime_152 rfl ?_
                  refine wk_iconst C (v := 1) dX8_readPrime_154 (by decide) ?_
                  refine wk_isub C dX8_readPrime_155 rfl ?_
                  refine wk_iload C dX8_readPrime_156 rfl ?_
                  obtain ⟨z28, h⟩ := h
                  refine wk_idiv C dX8_readPrime_158 z28 rfl ?_
                  refine wk_iload C dX8_readPrime_159 rfl ?_
                  refine wk_callN C hR (y := yX11_restOfPower) (host := "Witnessworks") (As := [.int l5I, .int ((l4I - (1 : Int32)) / v7), .int l4I]) (cnt := 3) (tX11_restOfPower (l := l) hWS8  h) rfl (fun w h => ⟨hbX8_readPrime_X11_restOfPower w h, gdX11_restOfPower w h⟩) (by decide +kernel) (List.mem_of_getElem? (i := 11) rfl) (List.mem_of_getElem? (i := 12) rfl) (Nat.le_trans (by decide : 0 + 1 ≤ 1) hd) (by decide) ⟨by decide, by decide, by decide +kernel⟩ rfl rfl (Nat.le_of_ble_eq_true rfl) (Nat.le_refl 0) (Nat.le_refl 0) dX8_readPrime_161 (fun v' S30 hp => ?_)
                  obtain ⟨v29, rfl, h, hWS30, hXS30⟩ := hp
                  refine wk_iconst C (v := 1) dX8_readPrime_164 (by decide) ?_
                  refine wk_icmp_ne C (tgt := 170) dX8_readPrime_165 (by decide) (fun c34 => ?_) (fun c34 => ?_)
                  · rw [if_neg c34] at h
                    refine wk_aload_n C dX8_readPrime_170 rfl rfl ?_
                    refine wk_iload C dX8_readPrime_171 rfl ?_
                    refine wk_iload_n C dX8_readPrime_173 rfl rfl ?_
                    refine wk_iconst C (v := 1) dX8_readPrime_174 (by decide) ?_
                    refine wk_iadd C dX8_readPrime_175 rfl ?_
                    refine wk_iload_n C dX8_readPrime_176 rfl rfl ?_
                    refine wk_callW C hR (As := [.ref l0A, .int l6I, .int (l2I + (1 : Int32)), .int l3I]) (cnt := 4) (hrc _ _ _ _ _ _ hWS30 (hXS30 _ _ (hXS8 _ _ hl0A)) h) rfl (wkGoodW (List.mem_of_getElem? (i := 6) rfl) (List.mem_of_getElem? (i := 7) rfl) (List.mem_of_getElem? (i := 8) rfl) (fun w h => h) gdX8_readPrime) hd0 (by decide) ⟨by decide, by decide, by decide +kernel⟩ rfl rfl (Nat.le_of_ble_eq_true rfl) (Nat.le_refl 0) (Nat.le_refl 0) dX8_readPrime_177 (fun v' S36 hp => ?_)
                    obtain ⟨v35, rfl, h, hWS36, hXS36⟩ := hp
                    refine wk_istore C (lv' := [some (.ref l0A), none, some (.int l2I), some (.int l3I), some (.int l4I), some (.int l5I), some (.int v35), some (.int l7I), some (.int l8I), some (.int l9I), some (.int v7)]) dX8_readPrime_180 (by decide) rfl ?_
                    refine wk_iload C dX8_readPrime_182 rfl ?_
                    refine wk_if_ge C (tgt := 189) dX8_readPrime_184 (by decide) (fun c40 => ?_) (fun c40 => ?_)
                    · rw [if_pos c40] at h
                      refine wk_iload C dX8_readPrime_189 rfl ?_
                      refine wk_istore C (lv' := [some (.ref l0A), none, some (.int l2I), some (.int l3I), some (.int l4I), some (.int l5I), some (.int v35), some (.int v7), some (.int l8I), some (.int l9I), some (.int v7)]) dX8_readPrime_191 (by decide) rfl ?_
                      refine wk_iload C dX8_readPrime_193 rfl ?_
                      refine wk_iload C dX8_readPrime_195 rfl ?_
                      refine wk_callW C hR (As := [.int l8I, .int v7]) (cnt := 2) (tX8_withoutDivisor (l := l) hWS36  h) rfl (wkGoodW (List.mem_of_getElem? (i := 9) rfl) (List.mem_of_getElem? (i := 10) rfl) (List.mem_of_getElem? (i := 8) rfl) hbX8_readPrime_X8_withoutDivisor gdX8_withoutDivisor) (Nat.le_trans (by decide : 0 + 1 ≤ 1) hd) (by decide) ⟨by decide, by decide, by decide +kernel⟩ rfl rfl (Nat.le_of_ble_eq_true rfl) (Nat.le_refl 0) (Nat.le_refl 0) dX8_readPrime_197 (fun v' S42 hp => ?_)
                      obtain ⟨v41, rfl, h, hWS42, hXS42⟩ := hp
                      refine wk_istore C (lv' := [some (.ref l0A), none, some (.int l2I), some (.int l3I), some (.int l4I), some (.int l5I), some (.int v35), some (.int v7), some (.int v41), some (.int l9I), some (.int v7)]) dX8_readPrime_200 (by decide) rfl ?_
                      obtain ⟨x46, ex46, h⟩ := wkLt_some h
                      refine wk_iinc C (lv' := [some (.ref l0A), none, some (.int l2I), some (.int l3I), some (.int l4I), some (.int l5I), some (.int v35), some (.int v7), some (.int v41), some (.int x46), some (.int v7)]) dX8_readPrime_202 rfl (by rw [ex46]; rfl) (by decide) rfl ?_
                      refine wk_goto C (tgt := 99) dX8_readPrime_205 (by decide) ?_
                      exact wk_forget (lv' := [some (.ref l0A), none, some (.int l2I), some (.int l3I), some (.int l4I), some (.int l5I), some (.int v35), some (.int v7), some (.int v41), some (.int x46), none]) (wkLs.le ⟨rfl, rfl, rfl, rfl, rfl, rfl, rfl, rfl, rfl, trivial⟩) (ih _ _ _ _ _ _ _ _ _ _ hWS42 (wkExt.tr (wkExt.tr (wkExt.tr (wkExt.tr hE hXS8) hXS30) hXS36) hXS42) (hXS42 _ _ (hXS36 _ _ (hXS30 _ _ (hXS8 _ _ hl0A)))) h)
                    · rw [if_neg c40] at h
                      refine wk_iconst C (v := (-1)) dX8_readPrime_187 (by decide) ?_
                      exact E _ _ _ _ _ _ (Nat.le_refl 0) (Nat.le_refl 0) dX8_readPrime_188 ⟨(-1 : Int32), rfl, h, hWS36, (wkExt.tr (wkExt.tr (wkExt.tr hE hXS8) hXS30) hXS36)⟩
                  · rw [if_pos c34] at h
                    refine wk_iconst C (v := (-1)) dX8_readPrime_168 (by decide) ?_
                    exact E _ _ _ _ _ _ (Nat.le_refl 0) (Nat.le_refl 0) dX8_readPrime_169 ⟨(-1 : Int32), rfl, h, hWS30, (wkExt.tr (wkExt.tr hE hXS8) hXS30)⟩
              · rw [if_neg c14] at h
                refine wk_iconst C (v := (-1)) dX8_readPrime_144 (by decide) ?_
                exact E _ _ _ _ _ _ (Nat.le_refl 0) (Nat.le_refl 0) dX8_readPrime_145 ⟨(-1 : Int32), rfl, h, hWS8, (wkExt.tr hE hXS8)⟩
set_option maxHeartbeats 4000000 in
set_option maxRecDepth 100000 in
theorem tX8_readPrime_a {l : Launch} {g : wkG} {F d0 : Nat} {rc : Nat → Int32 → Int32 → Int32 → wPS → (Int32 → wPS → Prop) → Prop} (hrc : ∀ (l0A : Nat) (l1I : Int32) (l2I : Int32) (l3I : Int32) (S : wPS) (Φ : (Int32 → wPS → Prop)), wkWF S → wkIs S l0A 9 → rc l0A l1I l2I l3I S Φ → wkMet l g yX8_readPrime wvX8_readPrime d0 0 0 [.ref l0A, .int l1I, .int l2I, .int l3I] S (fun v' S'' => ∃ v : Int32, v' = some (.int v) ∧ Φ v S'' ∧ wkWF S'' ∧ wkExt S S'')) {S : wPS} {l0A : Nat} {l1I : Int32} {l2I : Int32} {l3I : Int32} {Φ : (Int32 → wPS → Prop)} (hW : wkWF S) (hl0A : wkIs S l0A 9) (h : rX8_readPrime_a F rc l0A l1I l2I l3I S Φ) {d : Nat} (hd0 : d0 + 1 ≤ d) (hd : 1 ≤ d) : wkMet l g yX8_readPrime wvX8_readPrime d 0 0 [.ref l0A, .int l1I, .int l2I, .int l3I] S (fun v' S'' => ∃ v : Int32, v' = some (.int v) ∧ Φ v S'' ∧ wkWF S'' ∧ wkExt S S'') := by
  refine wkMet_of (ret := (some .int)) (by decide) rfl (Nat.le_of_ble_eq_true rfl) (fun X hg C hR E => ?_)
  subst hg
  have hE : wkExt S S := wkExt.rf
  show wkGo l X 11 0 0 0 S [some (.ref l0A), some (.int l1I), some (.int l2I), some (.int l3I), none, none, none, none, none, none, none] []
  have ih := tX8_readPrime_go (F := F) C hR hd hrc hd0 E F
  have h : rX8_readPrime_s F rc (rX8_readPrime_go F rc F) l0A l1I l2I l3I S Φ := h
  unfold rX8_readPrime_s at h
  refine wk_aload_n C dX8_readPrime_0 rfl rfl ?_
  refine wk_iload_n C dX8_readPrime_1 rfl rfl ?_
  refine wk_callV C hR (As := [.int l1I]) (cnt := 1) (tX9_at (l := l) hW hl0A h) rfl (wkGoodV (List.mem_of_getElem? (i := 2) rfl) (List.mem_of_getElem? (i := 3) rfl) (List.mem_of_getElem? (i := 4) rfl) (List.mem_of_getElem? (i := 5) rfl) hbX8_readPrime_X9_at gdX9_at) (Nat.le_trans (by decide : 0 + 1 ≤ 1) hd) (by decide) hl0A.1 (fun cy => wAt_9 cy _ hl0A.2) rfl ⟨by decide, by decide, by decide +kernel⟩ rfl rfl (Nat.le_of_ble_eq_true rfl) (Nat.le_refl 0) (Nat.le_refl 0) dX8_readPrime_2 (fun v' S48 hp => ?_)
  obtain ⟨v47, rfl, h, hWS48, hXS48⟩ := hp
  refine wk_istore C (lv' := [some (.ref l0A), some (.int l1I), some (.int l2I), some (.int l3I), some (.int v47), none, none, none, none, none, none]) dX8_readPrime_5 (by decide) rfl ?_
  refine wk_iload_n C dX8_readPrime_7 rfl rfl ?_
  refine wk_aload_n C dX8_readPrime_8 rfl rfl ?_
  refine wk_get C (v := .int (gRow_count S48 l0A)) huX8_readPrime_9 (hXS48 _ _ hl0A).1 (fun cy => wAt_9 cy _ (hXS48 _ _ hl0A).2) rfl 1 (by decide) (List.mem_of_getElem? (i := 1) rfl) rfl rfl dX8_readPrime_9 ?_
  refine wk_icmp_ge C (tgt := 27) dX8_readPrime_12 (by decide) (fun c52 => ?_) (fun c52 => ?_)
  · rw [if_pos c52] at h
    refine wk_iconst C (v := (-1)) dX8_readPrime_27 (by decide) ?_
    exact E _ _ _ _ _ _ (Nat.le_refl 0) (Nat.le_refl 0) dX8_readPrime_28 ⟨(-1 : Int32), rfl, h, hWS48, (wkExt.tr hE hXS48)⟩
  · rw [if_neg c52] at h
    refine wk_iload C dX8_readPrime_15 rfl ?_
    refine wk_iconst C (v := 2) dX8_readPrime_17 (by decide) ?_
    refine wk_icmp_lt C (tgt := 27) dX8_readPrime_18 (by decide) (fun c53 => ?_) (fun c53 => ?_)
    · rw [if_pos c53] at h
      refine wk_iconst C (v := (-1)) dX8_readPrime_27 (by decide) ?_
      exact E _ _ _ _ _ _ (Nat.le_refl 0) (Nat.le_refl 0) dX8_readPrime_28 ⟨(-1 : Int32), rfl, h, hWS48, (wkExt.tr hE hXS48)⟩
    · rw [if_neg c53] at h
      refine wk_iload_n C dX8_readPrime_21 rfl rfl ?_
      refine wk_bipush C (v := 40) dX8_readPrime_22 (by decide) ?_
      refine wk_icmp_le C (tgt := 29) dX8_readPrime_24 (by decide) (fun c54 => ?_) (fun c54 => ?_)
      · rw [if_pos c54] at h
        refine wk_iload C dX8_readPrime_29 rfl ?_
        refine wk_iconst C (v := 2) dX8_readPrime_31 (by decide) ?_
        refine wk_icmp_ne C (tgt := 39) dX8_readPrime_32 (by decide) (fun c55 => ?_) (fun c55 => ?_)
        · rw [if_neg c55] at h
          refine wk_aload_n C dX8_readPrime_39 rfl rfl ?_
          refine wk_iload_n C dX8_readPrime_40 rfl rfl ?_
          refine wk_iconst C (v := 1) dX8_readPrime_41 (by decide) ?_
          refine wk_iadd C dX8_readPrime_42 rfl ?_
          refine wk_callV C hR (As := [.int (l1I + (1 : Int32))]) (cnt := 1) (tX9_at (l := l) hWS48 (hXS48 _ _ hl0A) h) rfl (wkGoodV (List.mem_of_getElem? (i := 2) rfl) (List.mem_of_getElem? (i := 3) rfl) (List.mem_of_getElem? (i := 4) rfl) (List.mem_of_getElem? (i := 5) rfl) hbX8_readPrime_X9_at gdX9_at) (Nat.le_trans (by decide : 0 + 1 ≤ 1) hd) (by decide) (hXS48 _ _ hl0A).1 (fun cy => wAt_9 cy _ (hXS48 _ _ hl0A).2) rfl ⟨by decide, by decide, by decide +kernel⟩ rfl rfl (Nat.le_of_ble_eq_true rfl) (Nat.le_refl 0) (Nat.le_refl 0) dX8_readPrime_43 (fun v' S57 hp => ?_)
          obtain ⟨v56, rfl, h, hWS57, hXS57⟩ := hp
          refine wk_istore C (lv' := [some (.ref l0A), some (.int l1I), some (.int l2I), some (.int l3I), some (.int v47), some (.int v56), none, none, none, none, none]) dX8_readPrime_46 (by decide) rfl ?_
          refine wk_iload C dX8_readPrime_48 rfl ?_
          refine wk_iconst C (v := 1) dX8_readPrime_50 (by decide) ?_
          refine wk_icmp_lt C (tgt := 80) dX8_readPrime_51 (by decide) (fun c61 => ?_) (fun c61 => ?_)
          · rw [if_pos c61] at h
            refine wk_iconst C (v := (-1)) dX8_readPrime_80 (by decide) ?_
            exact E _ _ _ _ _ _ (Nat.le_refl 0) (Nat.le_refl 0) dX8_readPrime_81 ⟨(-1 : Int32), rfl, h, hWS57, (wkExt.tr (wkExt.tr hE hXS48) hXS57)⟩
          · rw [if_neg c61] at h
            refine wk_iload C dX8_readPrime_54 rfl ?_
            refine wk_iload C dX8_readPrime_56 rfl ?_
            refine wk_icmp_ge C (tgt := 80) dX8_readPrime_58 (by decide) (fun c62 => ?_) (fun c62 => ?_)
            · rw [if_pos c62] at h
              refine wk_iconst C (v := (-1)) dX8_readPrime_80 (by decide) ?_
              exact E _ _ _ _ _ _ (Nat.le_refl 0) (Nat.le_refl 0) dX8_readPrime_81 ⟨(-1 : Int32), rfl, h, hWS57, (wkExt.tr (wkExt.tr hE hXS48) hXS57)⟩
            · rw [if_neg c62] at h
              refine wk_iload_n C dX8_readPrime_61 rfl rfl ?_
              refine wk_if_eq C (tgt := 82) dX8_readPrime_62 (by decide) (fun c63 => ?_) (fun c63 => ?_)
              · rw [if_pos c63] at h
                refine wk_iload_n C dX8_readPrime_82 rfl rfl ?_
                refine wk_iconst C (v := 2) dX8_readPrime_83 (by decide) ?_
                refine wk_iadd C dX8_readPrime_84 rfl ?_
                obtain ⟨x64, ex64, h⟩ := wkLt_some h
                refine wk_topi ex64 ?_
                refine wk_istore C (lv' := [some (.ref l0A), some (.int l1I), some (.int l2I), some (.int l3I), some (.int v47), some (.int v56), some (.int x64), none, none, none, none]) dX8_readPrime_85 (by decide) rfl ?_
                refine wk_iconst C (v := 1) dX8_readPrime_87 (by decide) ?_
                refine wk_istore C (lv' := [some (.ref l0A), some (.int l1I), some (.int l2I), some (.int l3I), some (.int v47), some (.int v56), some (.int x64), some (.int (1 : Int32)), none, none, none]) dX8_readPrime_88 (by decide) rfl ?_
                refine wk_iload C dX8_readPrime_90 rfl ?_
                refine wk_iconst C (v := 1) dX8_readPrime_92 (by decide) ?_
                refine wk_isub C dX8_readPrime_93 rfl ?_
                obtain ⟨x65, ex65, h⟩ := wkLt_some h
                refine wk_topi ex65 ?_
                refine wk_istore C (lv' := [some (.ref l0A), some (.int l1I), some (.int l2I), some (.int l3I), some (.int v47), some (.int v56), some (.int x64), some (.int (1 : Int32)), some (.int x65), none, none]) dX8_readPrime_94 (by decide) rfl ?_
                refine wk_iconst C (v := 0) dX8_readPrime_96 (by decide) ?_
                refine wk_istore C (lv' := [some (.ref l0A), some (.int l1I), some (.int l2I), some (.int l3I), some (.int v47), some (.int v56), some (.int x64), some (.int (1 : Int32)), some (.int x65), some (.int (0 : Int32)), none]) dX8_readPrime_97 (by decide) rfl ?_
                exact wk_forget (lv' := [some (.ref l0A), none, some (.int l2I), some (.int l3I), some (.int v47), some (.int v56), some (.int x64), some (.int (1 : Int32)), some (.int x65), some (.int (0 : Int32)), none]) (wkLs.le ⟨rfl, rfl, rfl, rfl, rfl, rfl, rfl, rfl, rfl, trivial⟩) (ih _ _ _ _ _ _ _ _ _ _ hWS57 (wkExt.tr (wkExt.tr hE hXS48) hXS57) (hXS57 _ _ (hXS48 _ _ hl0A)) h)
              · rw [if_neg c63] at h
                refine wk_iload C dX8_readPrime_65 rfl ?_
                refine wk_iload C dX8_readPrime_67 rfl ?_
                refine wk_iconst C (v := 1) dX8_readPrime_69 (by decide) ?_
                refine wk_isub C dX8_readPrime_70 rfl ?_
                refine wk_iload C dX8_readPrime_71 rfl ?_
                refine wk_callN C hR (y := yX11_restOfPower) (host := "Witnessworks") (As := [.int v56, .int (v47 - (1 : Int32)), .int v47]) (cnt := 3) (tX11_restOfPower (l := l) hWS57  h) rfl (fun w h => ⟨hbX8_readPrime_X11_restOfPower w h, gdX11_restOfPower w h⟩) (by decide +kernel) (List.mem_of_getElem? (i := 11) rfl) (List.mem_of_getElem? (i := 12) rfl) (Nat.le_trans (by decide : 0 + 1 ≤ 1) hd) (by decide) ⟨by decide, by decide, by decide +kernel⟩ rfl rfl (Nat.le_of_ble_eq_true rfl) (Nat.le_refl 0) (Nat.le_refl 0) dX8_readPrime_73 (fun v' S67 hp => ?_)
                obtain ⟨v66, rfl, h, hWS67, hXS67⟩ := hp
                refine wk_iconst C (v := 1) dX8_readPrime_76 (by decide) ?_
                refine wk_icmp_eq C (tgt := 82) dX8_readPrime_77 (by decide) (fun c71 => ?_) (fun c71 => ?_)
                · rw [if_pos c71] at h
                  refine wk_iload_n C dX8_readPrime_82 rfl rfl ?_
                  refine wk_iconst C (v := 2) dX8_readPrime_83 (by decide) ?_
                  refine wk_iadd C dX8_readPrime_84 rfl ?_
                  obtain ⟨x72, ex72, h⟩ := wkLt_some h
                  refine wk_topi ex72 ?_
                  refine wk_istore C (lv' := [some (.ref l0A), some (.int l1I), some (.int l2I), some (.int l3I), some (.int v47), some (.int v56), some (.int x72), none, none, none, none]) dX8_readPrime_85 (by decide) rfl ?_
                  refine wk_iconst C (v := 1) dX8_readPrime_87 (by decide) ?_
                  refine wk_istore C (lv' := [some (.ref l0A), some (.int l1I), some (.int l2I), some (.int l3I), some (.int v47), some (.int v56), some (.int x72), some (.int (1 : Int32)), none, none, none]) dX8_readPrime_88 (by decide) rfl ?_
                  refine wk_iload C dX8_readPrime_90 rfl ?_
                  refine wk_iconst C (v := 1) dX8_readPrime_92 (by decide) ?_
                  refine wk_isub C dX8_readPrime_93 rfl ?_
                  obtain ⟨x73, ex73, h⟩ := wkLt_some h
                  refine wk_topi ex73 ?_
                  refine wk_istore C (lv' := [some (.ref l0A), some (.int l1I), some (.int l2I), some (.int l3I), some (.int v47), some (.int v56), some (.int x72), some (.int (1 : Int32)), some (.int x73), none, none]) dX8_readPrime_94 (by decide) rfl ?_
                  refine wk_iconst C (v := 0) dX8_readPrime_96 (by decide) ?_
                  refine wk_istore C (lv' := [some (.ref l0A), some (.int l1I), some (.int l2I), some (.int l3I), some (.int v47), some (.int v56), some (.int x72), some (.int (1 : Int32)), some (.int x73), some (.int (0 : Int32)), none]) dX8_readPrime_97 (by decide) rfl ?_
                  exact wk_forget (lv' := [some (.ref l0A), none, some (.int l2I), some (.int l3I), some (.int v47), some (.int v56), some (.int x72), some (.int (1 : Int32)), some (.int x73), some (.int (0 : Int32)), none]) (wkLs.le ⟨rfl, rfl, rfl, rfl, rfl, rfl, rfl, rfl, rfl, trivial⟩) (ih _ _ _ _ _ _ _ _ _ _ hWS67 (wkExt.tr (wkExt.tr (wkExt.tr hE hXS48) hXS57) hXS67) (hXS67 _ _ (hXS57 _ _ (hXS48 _ _ hl0A))) h)
                · rw [if_neg c71] at h
                  refine wk_iconst C (v := (-1)) dX8_readPrime_80 (by decide) ?_
                  exact E _ _ _ _ _ _ (Nat.le_refl 0) (Nat.le_refl 0) dX8_readPrime_81 ⟨(-1 : Int32), rfl, h, hWS67, (wkExt.tr (wkExt.tr (wkExt.tr hE hXS48) hXS57) hXS67)⟩
        · rw [if_pos c55] at h
          refine wk_iload_n C dX8_readPrime_35 rfl rfl ?_
          refine wk_iconst C (v := 1) dX8_readPrime_36 (by decide) ?_
          refine wk_iadd C dX8_readPrime_37 rfl ?_
          exact E _ _ _ _ _ _ (Nat.le_refl 0) (Nat.le_refl 0) dX8_readPrime_38 ⟨(l1I + (1 : Int32)), rfl, h, hWS48, (wkExt.tr hE hXS48)⟩
      · rw [if_neg c54] at h
        refine wk_iconst C (v := (-1)) dX8_readPrime_27 (by decide) ?_
        exact E _ _ _ _ _ _ (Nat.le_refl 0) (Nat.le_refl 0) dX8_readPrime_28 ⟨(-1 : Int32), rfl, h, hWS48, (wkExt.tr hE hXS48)⟩
theorem tX8_readPrime_d {l : Launch} {g : wkG} {F : Nat} : ∀ (j : Nat) (l0A : Nat) (l1I : Int32) (l2I : Int32) (l3I : Int32) (S : wPS) (Φ : (Int32 → wPS → Prop)), wkWF S → wkIs S l0A 9 → rX8_readPrime F j l0A l1I l2I l3I S Φ → wkMet l g yX8_readPrime wvX8_readPrime (1 + j) 0 0 [.ref l0A, .int l1I, .int l2I, .int l3I] S (fun v' S'' => ∃ v : Int32, v' = some (.int v) ∧ Φ v S'' ∧ wkWF S'' ∧ wkExt S S'')
  | 0, _, _, _, _, _, _, _, _,  h => h.elim
  | j + 1, _, _, _, _, S, Φ, hW, hl0A,  h => tX8_readPrime_a (d0 := 1 + j) (tX8_readPrime_d j) hW hl0A (d := 1 + (j + 1)) h (by omega) (by omega)
theorem tX8_readPrime {l : Launch} {g : wkG} {F : Nat} {S : wPS} {l0A : Nat} {l1I : Int32} {l2I : Int32} {l3I : Int32} {Φ : (Int32 → wPS → Prop)} (hW : wkWF S) (hl0A : wkIs S l0A 9) (h : rX8_readPrime F 48 l0A l1I l2I l3I S Φ) : wkMet l g yX8_readPrime wvX8_readPrime 49 0 0 [.ref l0A, .int l1I, .int l2I, .int l3I] S (fun v' S'' => ∃ v : Int32, v' = some (.int v) ∧ Φ v S'' ∧ wkWF S'' ∧ wkExt S S'') := tX8_readPrime_d 48 _ _ _ _ S Φ hW hl0A h
