def wvL_areOne : List Cond := .code yL_areOne cL_areOne 4 (some .boolean) :: (([.methodLink RL 198 yL_entries, .static yL_entries, .initialized RL, .methodLink RL 200 yL_isOne, .static yL_isOne] : List Cond) ++ (([]) ++ (wvL_entries ++ (wvL_isOne))))
theorem hbL_areOne_L_entries : ∀ w ∈ wvL_entries, w ∈ wvL_areOne := fun w h => List.mem_cons_of_mem _ (List.mem_append_right _ (List.mem_append_right _ (List.mem_append_left _ h)))
theorem hbL_areOne_L_isOne : ∀ w ∈ wvL_isOne, w ∈ wvL_areOne := fun w h => List.mem_cons_of_mem _ (List.mem_append_right _ (List.mem_append_right _ (List.mem_append_right _ h)))
theorem gdL_areOne : ∀ w ∈ wvL_areOne, wkGd w := wkGdC rfl (wkGdA (wkGdL (by decide +kernel)) (wkGdA (fun _ h => absurd h List.not_mem_nil) (wkGdA gdL_entries gdL_isOne)))
def rL_areOne_b0 (G : wkG) (F : Nat) (k n : Nat) (rec : Nat → Nat → Nat → Nat → Int32 → Int32 → wPS → (Int32 → wPS → Prop) → Prop) (c s : Nat) (l0A : Nat) (l2I : Int32) (l3I : Int32) (S : wPS) (Φ : (Int32 → wPS → Prop)) : Prop :=
  rL_entries G F l0A S fun v1 S2 => if 0 ≤ (lg_cmp (Int32.toInt64 l3I) v1) then (Φ (1 : Int32) S2) else (∃ k10 n11 : Nat, c + k10 ≤ k ∧ s + n11 ≤ n ∧ rL_isOne G F k10 n11 l0A l3I (l2I + ((7 : Int32) * l3I)) S2 fun v7 S8 => if v7 = 0 then (Φ (0 : Int32) S8) else (wkLt (l3I + (1 : Int32)) fun x13 => rec 0 (c + k10) (s + n11) l0A l2I x13 S8 Φ))
def rL_areOne_go (G : wkG) (F : Nat) (k n : Nat) : Nat → Nat → Nat → Nat → Nat → Int32 → Int32 → wPS → (Int32 → wPS → Prop) → Prop
  | 0, _, _, _, _, _, _, _, _ => False
  | k' + 1, lab, c, s, l0A, l2I, l3I, S, Φ => if lab = 0 then rL_areOne_b0 G F k n (rL_areOne_go G F k n k') c s l0A l2I l3I S Φ else False
def rL_areOne_s (G : wkG) (F : Nat) (k n : Nat) (rec : Nat → Nat → Nat → Nat → Int32 → Int32 → wPS → (Int32 → wPS → Prop) → Prop) (l0A : Nat) (l2I : Int32) (S : wPS) (Φ : (Int32 → wPS → Prop)) : Prop :=
  rec 0 0 0 l0A l2I (0 : Int32) S Φ
def rL_areOne (G : wkG) (F : Nat) (k n : Nat) (l0A : Nat) (l2I : Int32) (S : wPS) (Φ : (Int32 → wPS → Prop)) : Prop := rL_areOne_s G F k n (rL_areOne_go G F k n F) l0A l2I S Φ
set_option maxHeartbeats 4000000 in
set_option maxRecDepth 100000 in
theorem tL_areOne_go {k n : Nat} {l : Launch} {X : wkX} {d F : Nat} {S0 : wPS} {Φ : (Int32 → wPS → Prop)} (hst : wkSta (wkXg X)) (hcs : wkCast (wkXg X)) (harg : wkArg (wkXg X)) (hex : wkExA (wkXg X)) (hlt : l.stackTraces = false) (C : wkC X cL_areOne RL 4 wvL_areOne) (hR : wkRm X d k n) (hd : 59 ≤ d) (E : wkEnd l X cL_areOne 4 (some .boolean) k n (fun v' S'' => ∃ v : Int32, v' = some (.int v) ∧ Φ v S'' ∧ wkWF S'' ∧ wkExt S0 S'')) : ∀ k' : Nat, (∀ (c s : Nat), c ≤ k → s ≤ n → ∀ (l0A : Nat) (l1A : Nat) (l2I : Int32) (l3I : Int32) (S : wPS), wkWF S → wkExt S0 S → wkIs S l0A 11 → l1A = (wkXg X).1 8 → rL_areOne_go (wkXg X) F k n k' 0 c s l0A l2I l3I S Φ → wkGo l X 4 c s 2 S [some (.ref l0A), some (.ref l1A), some (.int l2I), some (.int l3I)] []) := by
  intro k'
  induction k' with
  | zero => exact fun c s hc hs l0A l1A l2I l3I S hW hE hl0A hl1A h => h.elim
  | succ k' ih =>
    · intro c s hc hs l0A l1A l2I l3I S hW hE hl0A hl1A h
      have h : rL_areOne_b0 (wkXg X) F k n (rL_areOne_go (wkXg X) F k n k') c s l0A l2I l3I S Φ := by
        rw [rL_areOne_go, if_pos (rfl : (0 : Nat) = 0)] at h
        exact h
      unfold rL_areOne_b0 at h
      refine wk_iload_n C dL_areOne_2 rfl rfl ?_
      refine wk_i2l C dL_areOne_3 rfl ?_
      refine wk_aload_n C dL_areOne_4 rfl rfl ?_
      refine wk_callW C hR (As := [.ref l0A]) (cnt := 1) (tL_entries (l := l) hW hl0A h) rfl (wkGoodW (List.mem_of_getElem? (i := 1) rfl) (List.mem_of_getElem? (i := 2) rfl) (List.mem_of_getElem? (i := 3) rfl) hbL_areOne_L_entries gdL_entries) (Nat.le_trans (by decide : 1 + 1 ≤ 59) hd) (by decide) ⟨by decide, by decide, by decide +kernel⟩ rfl rfl (Nat.le_of_ble_eq_true rfl) hc hs dL_areOne_5 (fun v' S2 hp => ?_)
      obtain ⟨v1, rfl, h, hWS2, hXS2⟩ := hp
      refine wk_lcmp C dL_areOne_8 rfl ?_
      refine wk_if_ge C (tgt := 35) dL_areOne_9 (by decide) (fun c6 => ?_) (fun c6 => ?_)
      · rw [if_pos c6] at h
        refine wk_iconst C (v := 1) dL_areOne_35 (by decide) ?_
        exact E _ _ _ _ _ _ hc hs dL_areOne_36 rfl ⟨(1 : Int32), rfl, h, hWS2, (wkExt.tr hE hXS2)⟩
      · rw [if_neg c6] at h
        refine wk_aload_n C dL_areOne_12 rfl rfl ?_
        refine wk_iload_n C dL_areOne_13 rfl rfl ?_
        refine wk_aload_n C dL_areOne_14 rfl rfl ?_
        refine wk_iload_n C dL_areOne_15 rfl rfl ?_
        refine wk_bipush C (v := 7) dL_areOne_16 (by decide) ?_
        refine wk_iload_n C dL_areOne_18 rfl rfl ?_
        refine wk_imul C dL_areOne_19 rfl ?_
        refine wk_iadd C dL_areOne_20 rfl ?_
        obtain ⟨k10, n11, hk10, hn11, h⟩ := h
        refine wk_callW C hR (As := [.ref l0A, .int l3I, .ref l1A, .int (l2I + ((7 : Int32) * l3I))]) (cnt := 4) (tL_isOne (l := l) hst hcs harg hex hlt hWS2 (hXS2 _ _ hl0A) hl1A h) rfl (wkGoodW (List.mem_of_getElem? (i := 4) rfl) (List.mem_of_getElem? (i := 5) rfl) (List.mem_of_getElem? (i := 3) rfl) hbL_areOne_L_isOne gdL_isOne) (Nat.le_trans (by decide : 58 + 1 ≤ 59) hd) (by decide) ⟨by decide, by decide, by decide +kernel⟩ rfl rfl (Nat.le_of_ble_eq_true rfl) hk10 hn11 dL_areOne_21 (fun v' S8 hp => ?_)
        obtain ⟨v7, rfl, h, hWS8, hXS8⟩ := hp
        refine wk_if_ne C (tgt := 29) dL_areOne_24 (by decide) (fun c12 => ?_) (fun c12 => ?_)
        · rw [if_neg c12] at h
          obtain ⟨x13, ex13, h⟩ := wkLt_some h
          refine wk_iinc C (lv' := [some (.ref l0A), some (.ref l1A), some (.int l2I), some (.int x13)]) dL_areOne_29 rfl (by rw [ex13]; rfl) (by decide) rfl ?_
          refine wk_goto C (tgt := 2) dL_areOne_32 (by decide) ?_
          exact wk_forget (lv' := [some (.ref l0A), some (.ref l1A), some (.int l2I), some (.int x13)]) (wkLs.le ⟨rfl, rfl, rfl, rfl, trivial⟩) (ih _ _ hk10 hn11 _ _ _ _ _ hWS8 (wkExt.tr (wkExt.tr hE hXS2) hXS8) (hXS8 _ _ (hXS2 _ _ hl0A)) hl1A h)
        · rw [if_pos c12] at h
          refine wk_iconst C (v := 0) dL_areOne_27 (by decide) ?_
          exact E _ _ _ _ _ _ hk10 hn11 dL_areOne_28 rfl ⟨(0 : Int32), rfl, h, hWS8, (wkExt.tr (wkExt.tr hE hXS2) hXS8)⟩
set_option maxHeartbeats 4000000 in
set_option maxRecDepth 100000 in
theorem tL_areOne {l : Launch} {g : wkG} {F : Nat} {k n : Nat}  {S : wPS} {l0A : Nat} {l1A : Nat} {l2I : Int32} {Φ : (Int32 → wPS → Prop)} (hst : wkSta g) (hcs : wkCast g) (harg : wkArg g) (hex : wkExA g) (hlt : l.stackTraces = false) (hW : wkWF S) (hl0A : wkIs S l0A 11) (hl1A : l1A = g.1 8) (h : rL_areOne g F k n l0A l2I S Φ) : wkMet l g yL_areOne wvL_areOne 59 k n [.ref l0A, .ref l1A, .int l2I] S (fun v' S'' => ∃ v : Int32, v' = some (.int v) ∧ Φ v S'' ∧ wkWF S'' ∧ wkExt S S'') := by
  refine wkMet_of (ret := (some .boolean)) (by decide) rfl (Nat.le_of_ble_eq_true rfl) (fun X hg C hR E => ?_)
  subst hg
  have hE : wkExt S S := wkExt.rf
  have hd : 59 ≤ 59 := Nat.le_refl _
  show wkGo l X 4 0 0 0 S [some (.ref l0A), some (.ref l1A), some (.int l2I), none] []
  have ih := tL_areOne_go (F := F) hst hcs harg hex hlt C hR hd E F
  have h : rL_areOne_s (wkXg X) F k n (rL_areOne_go (wkXg X) F k n F) l0A l2I S Φ := h
  unfold rL_areOne_s at h
  refine wk_iconst C (v := 0) dL_areOne_0 (by decide) ?_
  refine wk_istore_n C (lv' := [some (.ref l0A), some (.ref l1A), some (.int l2I), some (.int (0 : Int32))]) dL_areOne_1 rfl (by decide) rfl ?_
  exact wk_forget (lv' := [some (.ref l0A), some (.ref l1A), some (.int l2I), some (.int (0 : Int32))]) (wkLs.le ⟨rfl, rfl, rfl, rfl, trivial⟩) (ih _ _ (Nat.zero_le _) (Nat.zero_le _) _ _ _ _ _ hW hE hl0A hl1A h)
def wvL_isAnew : List Cond := .code yL_isAnew cL_isAnew 4 (some .boolean) :: (([.methodLink RL 198 yL_entries, .static yL_entries, .initialized RL, .methodLink RL 219 yL_checksum, .static yL_checksum, .methodLink RL 161 yL_kindOf, .static yL_kindOf, .methodLink RL 164 yL_sizeOf, .static yL_sizeOf, .methodLink RL 205 yL_boundOf, .static yL_boundOf, .methodLink RL 207 yL_open, .static yL_open, .methodLink RL 210 yL_items, .static yL_items, .methodLink RL 175 yL_answer, .static yL_answer, .methodLink RL 215 yL_number, .static yL_number, .methodLink RL 217 yL_rowSum, .static yL_rowSum, .methodLink RL 212 yL_item, .static yL_item, .methodLink RL 169 yL_put, .static yL_put, .classLink RL 9 RX11, .instantiable RX11 19, .initialized RX11, .methodLink RL 204 yX11_init, .instanceMethod yX11_init] : List Cond) ++ ((wsX110) ++ (wvL_entries ++ (wvL_checksum ++ (wvL_kindOf ++ (wvL_sizeOf ++ (wvL_boundOf ++ (wvL_open ++ (wvL_items ++ (wvL_answer ++ (wvL_number ++ (wvL_rowSum ++ (wvL_item ++ (wvL_put ++ (wvX11_init)))))))))))))))
theorem huL_isAnew_11 : ∀ w ∈ u_ws RX11 TX11 19, w ∈ wvL_isAnew := fun w h => List.mem_cons_of_mem _ (List.mem_append_right _ (List.mem_append_left _ h))
theorem hbL_isAnew_L_entries : ∀ w ∈ wvL_entries, w ∈ wvL_isAnew := fun w h => List.mem_cons_of_mem _ (List.mem_append_right _ (List.mem_append_right _ (List.mem_append_left _ h)))
theorem hbL_isAnew_L_checksum : ∀ w ∈ wvL_checksum, w ∈ wvL_isAnew := fun w h => List.mem_cons_of_mem _ (List.mem_append_right _ (List.mem_append_right _ (List.mem_append_right _ (List.mem_append_left _ h))))
theorem hbL_isAnew_L_kindOf : ∀ w ∈ wvL_kindOf, w ∈ wvL_isAnew := fun w h => List.mem_cons_of_mem _ (List.mem_append_right _ (List.mem_append_right _ (List.mem_append_right _ (List.mem_append_right _ (List.mem_append_left _ h)))))
theorem hbL_isAnew_L_sizeOf : ∀ w ∈ wvL_sizeOf, w ∈ wvL_isAnew := fun w h => List.mem_cons_of_mem _ (List.mem_append_right _ (List.mem_append_right _ (List.mem_append_right _ (List.mem_append_right _ (List.mem_append_right _ (List.mem_append_left _ h))))))
theorem hbL_isAnew_L_boundOf : ∀ w ∈ wvL_boundOf, w ∈ wvL_isAnew := fun w h => List.mem_cons_of_mem _ (List.mem_append_right _ (List.mem_append_right _ (List.mem_append_right _ (List.mem_append_right _ (List.mem_append_right _ (List.mem_append_right _ (List.mem_append_left _ h)))))))
theorem hbL_isAnew_L_open : ∀ w ∈ wvL_open, w ∈ wvL_isAnew := fun w h => List.mem_cons_of_mem _ (List.mem_append_right _ (List.mem_append_right _ (List.mem_append_right _ (List.mem_append_right _ (List.mem_append_right _ (List.mem_append_right _ (List.mem_append_right _ (List.mem_append_left _ h))))))))
theorem hbL_isAnew_L_items : ∀ w ∈ wvL_items, w ∈ wvL_isAnew := fun w h => List.mem_cons_of_mem _ (List.mem_append_right _ (List.mem_append_right _ (List.mem_append_right _ (List.mem_append_right _ (List.mem_append_right _ (List.mem_append_right _ (List.mem_append_right _ (List.mem_append_right _ (List.mem_append_left _ h)))))))))
theorem hbL_isAnew_L_answer : ∀ w ∈ wvL_answer, w ∈ wvL_isAnew := fun w h => List.mem_cons_of_mem _ (List.mem_append_right _ (List.mem_append_right _ (List.mem_append_right _ (List.mem_append_right _ (List.mem_append_right _ (List.mem_append_right _ (List.mem_append_right _ (List.mem_append_right _ (List.mem_append_right _ (List.mem_append_left _ h))))))))))
theorem hbL_isAnew_L_number : ∀ w ∈ wvL_number, w ∈ wvL_isAnew := fun w h => List.mem_cons_of_mem _ (List.mem_append_right _ (List.mem_append_right _ (List.mem_append_right _ (List.mem_append_right _ (List.mem_append_right _ (List.mem_append_right _ (List.mem_append_right _ (List.mem_append_right _ (List.mem_append_right _ (List.mem_append_right _ (List.mem_append_left _ h)))))))))))
theorem hbL_isAnew_L_rowSum : ∀ w ∈ wvL_rowSum, w ∈ wvL_isAnew := fun w h => List.mem_cons_of_mem _ (List.mem_append_right _ (List.mem_append_right _ (List.mem_append_right _ (List.mem_append_right _ (List.mem_append_right _ (List.mem_append_right _ (List.mem_append_right _ (List.mem_append_right _ (List.mem_append_right _ (List.mem_append_right _ (List.mem_append_right _ (List.mem_append_left _ h))))))))))))
theorem hbL_isAnew_L_item : ∀ w ∈ wvL_item, w ∈ wvL_isAnew := fun w h => List.mem_cons_of_mem _ (List.mem_append_right _ (List.mem_append_right _ (List.mem_append_right _ (List.mem_append_right _ (List.mem_append_right _ (List.mem_append_right _ (List.mem_append_right _ (List.mem_append_right _ (List.mem_append_right _ (List.mem_append_right _ (List.mem_append_right _ (List.mem_append_right _ (List.mem_append_left _ h)))))))))))))
theorem hbL_isAnew_L_put : ∀ w ∈ wvL_put, w ∈ wvL_isAnew := fun w h => List.mem_cons_of_mem _ (List.mem_append_right _ (List.mem_append_right _ (List.mem_append_right _ (List.mem_append_right _ (List.mem_append_right _ (List.mem_append_right _ (List.mem_append_right _ (List.mem_append_right _ (List.mem_append_right _ (List.mem_append_right _ (List.mem_append_right _ (List.mem_append_right _ (List.mem_append_right _ (List.mem_append_left _ h))))))))))))))
theorem hbL_isAnew_X11_init : ∀ w ∈ wvX11_init, w ∈ wvL_isAnew := fun w h => List.mem_cons_of_mem _ (List.mem_append_right _ (List.mem_append_right _ (List.mem_append_right _ (List.mem_append_right _ (List.mem_append_right _ (List.mem_append_right _ (List.mem_append_right _ (List.mem_append_right _ (List.mem_append_right _ (List.mem_append_right _ (List.mem_append_right _ (List.mem_append_right _ (List.mem_append_right _ (List.mem_append_right _ h))))))))))))))
theorem gdL_isAnew : ∀ w ∈ wvL_isAnew, wkGd w := wkGdC rfl (wkGdA (wkGdL (by decide +kernel)) (wkGdA gdX11 (wkGdA gdL_entries (wkGdA gdL_checksum (wkGdA gdL_kindOf (wkGdA gdL_sizeOf (wkGdA gdL_boundOf (wkGdA gdL_open (wkGdA gdL_items (wkGdA gdL_answer (wkGdA gdL_number (wkGdA gdL_rowSum (wkGdA gdL_item (wkGdA gdL_put gdX11_init))))))))))))))
def rL_isAnew_b0 (G : wkG) (F : Nat) (k n : Nat) (rec : Nat → Nat → Nat → Nat → Nat → Int32 → Int32 → wPS → (Int32 → wPS → Prop) → Prop) (c s : Nat) (l0A : Nat) (l1A : Nat) (l2I : Int32) (S : wPS) (Φ : (Int32 → wPS → Prop)) : Prop :=
  rL_entries G F l0A S fun v1 S2 => if 0 ≤ (lg_cmp (Int32.toInt64 l2I) v1) then (∃ k10 n11 : Nat, c + k10 ≤ k ∧ s + n11 ≤ n ∧ rL_checksum G F k10 n11 l1A S2 fun v7 S8 => ∃ k15 n16 : Nat, (c + k10) + k15 ≤ k ∧ (s + n11) + n16 ≤ n ∧ rL_checksum G F k15 n16 l0A S8 fun v12 S13 => if (lg_cmp v7 v12) = 0 then (Φ (1 : Int32) S13) else (Φ (0 : Int32) S13)) else (∃ k21 n22 : Nat, c + k21 ≤ k ∧ s + n22 ≤ n ∧ rL_kindOf G F k21 n22 l0A l2I S2 fun v18 S19 => ∃ k26 n27 : Nat, (c + k21) + k26 ≤ k ∧ (s + n22) + n27 ≤ n ∧ rL_sizeOf G F k26 n27 l0A l2I S19 fun v23 S24 => ∃ k31 n32 : Nat, ((c + k21) + k26) + k31 ≤ k ∧ ((s + n22) + n27) + n32 ≤ n ∧ rL_boundOf G F k31 n32 l0A l2I S24 fun v28 S29 => ∃ k36 n37 : Nat, (((c + k21) + k26) + k31) + k36 ≤ k ∧ (((s + n22) + n27) + n32) + n37 ≤ n ∧ rL_open G F k36 n37 l1A ((Int32.toUInt32 (Int64.toInt32 v18)) % 65536).toInt32 (Int64.toInt32 v23) (Int64.toInt32 v28) S29 fun v33 S34 => if (lg_cmp v33 (Int32.toInt64 l2I)) = 0 then (rec 1 ((((c + k21) + k26) + k31) + k36) ((((s + n22) + n27) + n32) + n37) l0A l1A l2I (0 : Int32) S34 Φ) else (Φ (0 : Int32) S34))
def rL_isAnew_b1 (G : wkG) (F : Nat) (k n : Nat) (rec : Nat → Nat → Nat → Nat → Nat → Int32 → Int32 → wPS → (Int32 → wPS → Prop) → Prop) (c s : Nat) (l0A : Nat) (l1A : Nat) (l2I : Int32) (l3I : Int32) (S : wPS) (Φ : (Int32 → wPS → Prop)) : Prop :=
  ∃ k42 n43 : Nat, c + k42 ≤ k ∧ s + n43 ≤ n ∧ rL_items G F k42 n43 l0A l2I S fun v39 S40 => if 0 ≤ (lg_cmp (Int32.toInt64 l3I) v39) then (∃ k48 n49 : Nat, (c + k42) + k48 ≤ k ∧ (s + n43) + n49 ≤ n ∧ rL_answer G F k48 n49 l1A l2I S40 fun v45 S46 => ∃ k53 n54 : Nat, ((c + k42) + k48) + k53 ≤ k ∧ ((s + n43) + n49) + n54 ≤ n ∧ rL_answer G F k53 n54 l0A l2I S46 fun v50 S51 => if (lg_cmp v45 v50) = 0 then (∃ k59 n60 : Nat, (((c + k42) + k48) + k53) + k59 ≤ k ∧ (((s + n43) + n49) + n54) + n60 ≤ n ∧ rL_number G F k59 n60 l1A l2I S51 fun v56 S57 => ∃ k64 n65 : Nat, ((((c + k42) + k48) + k53) + k59) + k64 ≤ k ∧ ((((s + n43) + n49) + n54) + n60) + n65 ≤ n ∧ rL_number G F k64 n65 l0A l2I S57 fun v61 S62 => if (lg_cmp v56 v61) = 0 then (∃ k70 n71 : Nat, (((((c + k42) + k48) + k53) + k59) + k64) + k70 ≤ k ∧ (((((s + n43) + n49) + n54) + n60) + n65) + n71 ≤ n ∧ rL_rowSum G F k70 n71 l1A l2I S62 fun v67 S68 => ∃ k75 n76 : Nat, ((((((c + k42) + k48) + k53) + k59) + k64) + k70) + k75 ≤ k ∧ ((((((s + n43) + n49) + n54) + n60) + n65) + n71) + n76 ≤ n ∧ rL_rowSum G F k75 n76 l0A l2I S68 fun v72 S73 => if (lg_cmp v67 v72) = 0 then (wkLt (l2I + (1 : Int32)) fun x78 => rec 0 (((((((c + k42) + k48) + k53) + k59) + k64) + k70) + k75) (((((((s + n43) + n49) + n54) + n60) + n65) + n71) + n76) l0A l1A x78 0 S73 Φ) else (Φ (0 : Int32) S73)) else (Φ (0 : Int32) S62)) else (Φ (0 : Int32) S51)) else (∃ k82 n83 : Nat, (c + k42) + k82 ≤ k ∧ (s + n43) + n83 ≤ n ∧ rL_item G F k82 n83 l0A l2I l3I (0 : Int32) S40 fun v79 S80 => ∃ k87 n88 : Nat, ((c + k42) + k82) + k87 ≤ k ∧ ((s + n43) + n83) + n88 ≤ n ∧ rL_item G F k87 n88 l0A l2I l3I (1 : Int32) S80 fun v84 S85 => ∃ k92 n93 : Nat, (((c + k42) + k82) + k87) + k92 ≤ k ∧ (((s + n43) + n83) + n88) + n93 ≤ n ∧ rL_item G F k92 n93 l0A l2I l3I (2 : Int32) S85 fun v89 S90 => ∃ k97 n98 : Nat, ((((c + k42) + k82) + k87) + k92) + k97 ≤ k ∧ ((((s + n43) + n83) + n88) + n93) + n98 ≤ n ∧ rL_item G F k97 n98 l0A l2I l3I (3 : Int32) S90 fun v94 S95 => ∃ k102 n103 : Nat, (((((c + k42) + k82) + k87) + k92) + k97) + k102 ≤ k ∧ (((((s + n43) + n83) + n88) + n93) + n98) + n103 ≤ n ∧ rL_item G F k102 n103 l0A l2I l3I (4 : Int32) S95 fun v99 S100 => ∃ k107 n108 : Nat, ((((((c + k42) + k82) + k87) + k92) + k97) + k102) + k107 ≤ k ∧ ((((((s + n43) + n83) + n88) + n93) + n98) + n103) + n108 ≤ n ∧ rL_put G F k107 n108 l1A l2I (Int64.toInt32 v79) (Int64.toInt32 v84) (Int64.toInt32 v89) (Int64.toInt32 v94) (Int64.toInt32 v99) S100 fun v104 S105 => if (lg_cmp v104 (Int32.toInt64 (l3I + (1 : Int32)))) = 0 then (wkLt (l3I + (1 : Int32)) fun x110 => rec 1 (((((((c + k42) + k82) + k87) + k92) + k97) + k102) + k107) (((((((s + n43) + n83) + n88) + n93) + n98) + n103) + n108) l0A l1A l2I x110 S105 Φ) else (Φ (0 : Int32) S105))
def rL_isAnew_go (G : wkG) (F : Nat) (k n : Nat) : Nat → Nat → Nat → Nat → Nat → Nat → Int32 → Int32 → wPS → (Int32 → wPS → Prop) → Prop
  | 0, _, _, _, _, _, _, _, _, _ => False
  | k' + 1, lab, c, s, l0A, l1A, l2I, l3I, S, Φ => if lab = 0 then rL_isAnew_b0 G F k n (rL_isAnew_go G F k n k') c s l0A l1A l2I S Φ else if lab = 1 then rL_isAnew_b1 G F k n (rL_isAnew_go G F k n k') c s l0A l1A l2I l3I S Φ else False
def rL_isAnew_s (G : wkG) (F : Nat) (k n : Nat) (rec : Nat → Nat → Nat → Nat → Nat → Int32 → Int32 → wPS → (Int32 → wPS → Prop) → Prop) (l0A : Nat) (S : wPS) (Φ : (Int32 → wPS → Prop)) : Prop :=
  0 + 1 ≤ k ∧ 0 + 19 ≤ n ∧ ∀ q112 : Nat, ¬ q112 ∈ S.L → wkLt (wnO S q112 11) fun S113 => ∃ k116 n117 : Nat, (0 + 1) + k116 ≤ k ∧ (0 + 19) + n117 ≤ n ∧ rX11_init F k116 n117 q112 S113 fun v114 S115 => wkWF S115 ∧ rec 0 ((0 + 1) + k116) ((0 + 19) + n117) l0A q112 (0 : Int32) 0 S115 Φ
def rL_isAnew (G : wkG) (F : Nat) (k n : Nat) (l0A : Nat) (S : wPS) (Φ : (Int32 → wPS → Prop)) : Prop := rL_isAnew_s G F k n (rL_isAnew_go G F k n F) l0A S Φ
set_option maxHeartbeats 4000000 in
set_option maxRecDepth 100000 in
theorem tL_isAnew_go {k n : Nat} {l : Launch} {X : wkX} {d F : Nat} {S0 : wPS} {Φ : (Int32 → wPS → Prop)} (hst : wkSta (wkXg X)) (hstr : wkStr (wkXg X)) (hcs : wkCast (wkXg X)) (hex : wkExA (wkXg X)) (hlt : l.stackTraces = false) (hmk : wkMk (wkXg X)) (C : wkC X cL_isAnew RL 4 wvL_isAnew) (hR : wkRm X d k n) (hd : 58 ≤ d) (E : wkEnd l X cL_isAnew 4 (some .boolean) k n (fun v' S'' => ∃ v : Int32, v' = some (.int v) ∧ Φ v S'' ∧ wkWF S'' ∧ wkExt S0 S'')) : ∀ k' : Nat, (∀ (c s : Nat), c ≤ k → s ≤ n → ∀ (l0A : Nat) (l1A : Nat) (l2I : Int32) (S : wPS), wkWF S → wkExt S0 S → wkIs S l0A 11 → wkIs S l1A 11 → rL_isAnew_go (wkXg X) F k n k' 0 c s l0A l1A l2I 0 S Φ → wkGo l X 4 c s 10 S [some (.ref l0A), some (.ref l1A), some (.int l2I), none] []) ∧ (∀ (c s : Nat), c ≤ k → s ≤ n → ∀ (l0A : Nat) (l1A : Nat) (l2I : Int32) (l3I : Int32) (S : wPS), wkWF S → wkExt S0 S → wkIs S l0A 11 → wkIs S l1A 11 → rL_isAnew_go (wkXg X) F k n k' 1 c s l0A l1A l2I l3I S Φ → wkGo l X 4 c s 53 S [some (.ref l0A), some (.ref l1A), some (.int l2I), some (.int l3I)] []) := by
  intro k'
  induction k' with
  | zero => exact ⟨fun c s hc hs l0A l1A l2I S hW hE hl0A hl1A h => h.elim, fun c s hc hs l0A l1A l2I l3I S hW hE hl0A hl1A h => h.elim⟩
  | succ k' ih =>
    refine ⟨?_, ?_⟩
    · intro c s hc hs l0A l1A l2I S hW hE hl0A hl1A h
      have h : rL_isAnew_b0 (wkXg X) F k n (rL_isAnew_go (wkXg X) F k n k') c s l0A l1A l2I S Φ := by
        rw [rL_isAnew_go, if_pos (rfl : (0 : Nat) = 0)] at h
        exact h
      unfold rL_isAnew_b0 at h
      refine wk_iload_n C dL_isAnew_10 rfl rfl ?_
      refine wk_i2l C dL_isAnew_11 rfl ?_
      refine wk_aload_n C dL_isAnew_12 rfl rfl ?_
      refine wk_callW C hR (As := [.ref l0A]) (cnt := 1) (tL_entries (l := l) hW hl0A h) rfl (wkGoodW (List.mem_of_getElem? (i := 1) rfl) (List.mem_of_getElem? (i := 2) rfl) (List.mem_of_getElem? (i := 3) rfl) hbL_isAnew_L_entries gdL_entries) (Nat.le_trans (by decide : 1 + 1 ≤ 58) hd) (by decide) ⟨by decide, by decide, by decide +kernel⟩ rfl rfl (Nat.le_of_ble_eq_true rfl) hc hs dL_isAnew_13 (fun v' S2 hp => ?_)
      obtain ⟨v1, rfl, h, hWS2, hXS2⟩ := hp
      refine wk_lcmp C dL_isAnew_16 rfl ?_
      refine wk_if_ge C (tgt := 175) dL_isAnew_17 (by decide) (fun c6 => ?_) (fun c6 => ?_)
      · rw [if_pos c6] at h
        refine wk_aload_n C dL_isAnew_175 rfl rfl ?_
        obtain ⟨k10, n11, hk10, hn11, h⟩ := h
        refine wk_callW C hR (As := [.ref l1A]) (cnt := 1) (tL_checksum (l := l) hst hex hlt hWS2 (hXS2 _ _ hl1A) h) rfl (wkGoodW (List.mem_of_getElem? (i := 4) rfl) (List.mem_of_getElem? (i := 5) rfl) (List.mem_of_getElem? (i := 3) rfl) hbL_isAnew_L_checksum gdL_checksum) (Nat.le_trans (by decide : 57 + 1 ≤ 58) hd) (by decide) ⟨by decide, by decide, by decide +kernel⟩ rfl rfl (Nat.le_of_ble_eq_true rfl) hk10 hn11 dL_isAnew_176 (fun v' S8 hp => ?_)
        obtain ⟨v7, rfl, h, hWS8, hXS8⟩ := hp
        refine wk_aload_n C dL_isAnew_179 rfl rfl ?_
        obtain ⟨k15, n16, hk15, hn16, h⟩ := h
        refine wk_callW C hR (As := [.ref l0A]) (cnt := 1) (tL_checksum (l := l) hst hex hlt hWS8 (hXS8 _ _ (hXS2 _ _ hl0A)) h) rfl (wkGoodW (List.mem_of_getElem? (i := 4) rfl) (List.mem_of_getElem? (i := 5) rfl) (List.mem_of_getElem? (i := 3) rfl) hbL_isAnew_L_checksum gdL_checksum) (Nat.le_trans (by decide : 57 + 1 ≤ 58) hd) (by decide) ⟨by decide, by decide, by decide +kernel⟩ rfl rfl (Nat.le_of_ble_eq_true rfl) hk15 hn16 dL_isAnew_180 (fun v' S13 hp => ?_)
        obtain ⟨v12, rfl, h, hWS13, hXS13⟩ := hp
        refine wk_lcmp C dL_isAnew_183 rfl ?_
        refine wk_if_ne C (tgt := 191) dL_isAnew_184 (by decide) (fun c17 => ?_) (fun c17 => ?_)
        · rw [if_neg c17] at h
          refine wk_iconst C (v := 0) dL_isAnew_191 (by decide) ?_
          exact E _ _ _ _ _ _ hk15 hn16 dL_isAnew_192 rfl ⟨(0 : Int32), rfl, h, hWS13, (wkExt.tr (wkExt.tr (wkExt.tr hE hXS2) hXS8) hXS13)⟩
        · rw [if_pos c17] at h
          refine wk_iconst C (v := 1) dL_isAnew_187 (by decide) ?_
          refine wk_goto C (tgt := 192) dL_isAnew_188 (by decide) ?_
          exact E _ _ _ _ _ _ hk15 hn16 dL_isAnew_192 rfl ⟨(1 : Int32), rfl, h, hWS13, (wkExt.tr (wkExt.tr (wkExt.tr hE hXS2) hXS8) hXS13)⟩
      · rw [if_neg c6] at h
        refine wk_aload_n C dL_isAnew_20 rfl rfl ?_
        refine wk_aload_n C dL_isAnew_21 rfl rfl ?_
        refine wk_iload_n C dL_isAnew_22 rfl rfl ?_
        obtain ⟨k21, n22, hk21, hn22, h⟩ := h
        refine wk_callT C hR (As := [.ref l0A, .int l2I]) (cnt := 2) (tL_kindOf (l := l) hstr hcs hex hlt hWS2 (hXS2 _ _ hl0A) h) rfl (wkGoodW (List.mem_of_getElem? (i := 6) rfl) (List.mem_of_getElem? (i := 7) rfl) (List.mem_of_getElem? (i := 3) rfl) hbL_isAnew_L_kindOf gdL_kindOf) (Nat.le_trans (by decide : 8 + 1 ≤ 58) hd) (by decide) ⟨by decide, by decide, by decide +kernel⟩ rfl rfl (Nat.le_of_ble_eq_true rfl) hk21 hn22 dL_isAnew_23 (fun v' S19 hp => ?_)
        obtain ⟨v18, rfl, h, hWS19, hXS19⟩ := hp
        refine wk_l2i C dL_isAnew_26 rfl ?_
        refine wk_i2c C dL_isAnew_27 rfl ?_
        refine wk_aload_n C dL_isAnew_28 rfl rfl ?_
        refine wk_iload_n C dL_isAnew_29 rfl rfl ?_
        obtain ⟨k26, n27, hk26, hn27, h⟩ := h
        refine wk_callT C hR (As := [.ref l0A, .int l2I]) (cnt := 2) (tL_sizeOf (l := l) hcs hex hlt hWS19 (hXS19 _ _ (hXS2 _ _ hl0A)) h) rfl (wkGoodW (List.mem_of_getElem? (i := 8) rfl) (List.mem_of_getElem? (i := 9) rfl) (List.mem_of_getElem? (i := 3) rfl) hbL_isAnew_L_sizeOf gdL_sizeOf) (Nat.le_trans (by decide : 8 + 1 ≤ 58) hd) (by decide) ⟨by decide, by decide, by decide +kernel⟩ rfl rfl (Nat.le_of_ble_eq_true rfl) hk26 hn27 dL_isAnew_30 (fun v' S24 hp => ?_)
        obtain ⟨v23, rfl, h, hWS24, hXS24⟩ := hp
        refine wk_l2i C dL_isAnew_33 rfl ?_
        refine wk_aload_n C dL_isAnew_34 rfl rfl ?_
        refine wk_iload_n C dL_isAnew_35 rfl rfl ?_
        obtain ⟨k31, n32, hk31, hn32, h⟩ := h
        refine wk_callT C hR (As := [.ref l0A, .int l2I]) (cnt := 2) (tL_boundOf (l := l) hst hcs hex hlt hWS24 (hXS24 _ _ (hXS19 _ _ (hXS2 _ _ hl0A))) h) rfl (wkGoodW (List.mem_of_getElem? (i := 10) rfl) (List.mem_of_getElem? (i := 11) rfl) (List.mem_of_getElem? (i := 3) rfl) hbL_isAnew_L_boundOf gdL_boundOf) (Nat.le_trans (by decide : 57 + 1 ≤ 58) hd) (by decide) ⟨by decide, by decide, by decide +kernel⟩ rfl rfl (Nat.le_of_ble_eq_true rfl) hk31 hn32 dL_isAnew_36 (fun v' S29 hp => ?_)
        obtain ⟨v28, rfl, h, hWS29, hXS29⟩ := hp
        refine wk_l2i C dL_isAnew_39 rfl ?_
        obtain ⟨k36, n37, hk36, hn37, h⟩ := h
        refine wk_callT C hR (As := [.ref l1A, .int ((Int32.toUInt32 (Int64.toInt32 v18)) % 65536).toInt32, .int (Int64.toInt32 v23), .int (Int64.toInt32 v28)]) (cnt := 4) (tL_open (l := l) hst hstr hcs hex hlt hWS29 (hXS29 _ _ (hXS24 _ _ (hXS19 _ _ (hXS2 _ _ hl1A)))) h) rfl (wkGoodW (List.mem_of_getElem? (i := 12) rfl) (List.mem_of_getElem? (i := 13) rfl) (List.mem_of_getElem? (i := 3) rfl) hbL_isAnew_L_open gdL_open) (Nat.le_trans (by decide : 7 + 1 ≤ 58) hd) (by decide) ⟨by decide, by decide, by decide +kernel⟩ rfl rfl (Nat.le_of_ble_eq_true rfl) hk36 hn37 dL_isAnew_40 (fun v' S34 hp => ?_)
        obtain ⟨v33, rfl, h, hWS34, hXS34⟩ := hp
        refine wk_iload_n C dL_isAnew_43 rfl rfl ?_
        refine wk_i2l C dL_isAnew_44 rfl ?_
        refine wk_lcmp C dL_isAnew_45 rfl ?_
        refine wk_if_eq C (tgt := 51) dL_isAnew_46 (by decide) (fun c38 => ?_) (fun c38 => ?_)
        · rw [if_pos c38] at h
          refine wk_iconst C (v := 0) dL_isAnew_51 (by decide) ?_
          refine wk_istore_n C (lv' := [some (.ref l0A), some (.ref l1A), some (.int l2I), some (.int (0 : Int32))]) dL_isAnew_52 rfl (by decide) rfl ?_
          exact wk_forget (lv' := [some (.ref l0A), some (.ref l1A), some (.int l2I), some (.int (0 : Int32))]) (wkLs.le ⟨rfl, rfl, rfl, rfl, trivial⟩) (ih.2 _ _ hk36 hn37 _ _ _ _ _ hWS34 (wkExt.tr (wkExt.tr (wkExt.tr (wkExt.tr (wkExt.tr hE hXS2) hXS19) hXS24) hXS29) hXS34) (hXS34 _ _ (hXS29 _ _ (hXS24 _ _ (hXS19 _ _ (hXS2 _ _ hl0A))))) (hXS34 _ _ (hXS29 _ _ (hXS24 _ _ (hXS19 _ _ (hXS2 _ _ hl1A))))) h)
        · rw [if_neg c38] at h
          refine wk_iconst C (v := 0) dL_isAnew_49 (by decide) ?_
          exact E _ _ _ _ _ _ hk36 hn37 dL_isAnew_50 rfl ⟨(0 : Int32), rfl, h, hWS34, (wkExt.tr (wkExt.tr (wkExt.tr (wkExt.tr (wkExt.tr hE hXS2) hXS19) hXS24) hXS29) hXS34)⟩
    · intro c s hc hs l0A l1A l2I l3I S hW hE hl0A hl1A h
      have h : rL_isAnew_b1 (wkXg X) F k n (rL_isAnew_go (wkXg X) F k n k') c s l0A l1A l2I l3I S Φ := by
        rw [rL_isAnew_go, if_neg (show ¬ (1 : Nat) = 0 by decide), if_pos (rfl : (1 : Nat) = 1)] at h
        exact h
      unfold rL_isAnew_b1 at h
      refine wk_iload_n C dL_isAnew_53 rfl rfl ?_
      refine wk_i2l C dL_isAnew_54 rfl ?_
      refine wk_aload_n C dL_isAnew_55 rfl rfl ?_
      refine wk_iload_n C dL_isAnew_56 rfl rfl ?_
      obtain ⟨k42, n43, hk42, hn43, h⟩ := h
      refine wk_callT C hR (As := [.ref l0A, .int l2I]) (cnt := 2) (tL_items (l := l) hcs hex hlt hW hl0A h) rfl (wkGoodW (List.mem_of_getElem? (i := 14) rfl) (List.mem_of_getElem? (i := 15) rfl) (List.mem_of_getElem? (i := 3) rfl) hbL_isAnew_L_items gdL_items) (Nat.le_trans (by decide : 8 + 1 ≤ 58) hd) (by decide) ⟨by decide, by decide, by decide +kernel⟩ rfl rfl (Nat.le_of_ble_eq_true rfl) hk42 hn43 dL_isAnew_57 (fun v' S40 hp => ?_)
      obtain ⟨v39, rfl, h, hWS40, hXS40⟩ := hp
      refine wk_lcmp C dL_isAnew_60 rfl ?_
      refine wk_if_ge C (tgt := 125) dL_isAnew_61 (by decide) (fun c44 => ?_) (fun c44 => ?_)
      · rw [if_pos c44] at h
        refine wk_aload_n C dL_isAnew_125 rfl rfl ?_
        refine wk_iload_n C dL_isAnew_126 rfl rfl ?_
        obtain ⟨k48, n49, hk48, hn49, h⟩ := h
        refine wk_callT C hR (As := [.ref l1A, .int l2I]) (cnt := 2) (tL_answer (l := l) hst hcs hex hlt hWS40 (hXS40 _ _ hl1A) h) rfl (wkGoodW (List.mem_of_getElem? (i := 16) rfl) (List.mem_of_getElem? (i := 17) rfl) (List.mem_of_getElem? (i := 3) rfl) hbL_isAnew_L_answer gdL_answer) (Nat.le_trans (by decide : 57 + 1 ≤ 58) hd) (by decide) ⟨by decide, by decide, by decide +kernel⟩ rfl rfl (Nat.le_of_ble_eq_true rfl) hk48 hn49 dL_isAnew_127 (fun v' S46 hp => ?_)
        obtain ⟨v45, rfl, h, hWS46, hXS46⟩ := hp
        refine wk_aload_n C dL_isAnew_130 rfl rfl ?_
        refine wk_iload_n C dL_isAnew_131 rfl rfl ?_
        obtain ⟨k53, n54, hk53, hn54, h⟩ := h
        refine wk_callT C hR (As := [.ref l0A, .int l2I]) (cnt := 2) (tL_answer (l := l) hst hcs hex hlt hWS46 (hXS46 _ _ (hXS40 _ _ hl0A)) h) rfl (wkGoodW (List.mem_of_getElem? (i := 16) rfl) (List.mem_of_getElem? (i := 17) rfl) (List.mem_of_getElem? (i := 3) rfl) hbL_isAnew_L_answer gdL_answer) (Nat.le_trans (by decide : 57 + 1 ≤ 58) hd) (by decide) ⟨by decide, by decide, by decide +kernel⟩ rfl rfl (Nat.le_of_ble_eq_true rfl) hk53 hn54 dL_isAnew_132 (fun v' S51 hp => ?_)
        obtain ⟨v50, rfl, h, hWS51, hXS51⟩ := hp
        refine wk_lcmp C dL_isAnew_135 rfl ?_
        refine wk_if_ne C (tgt := 167) dL_isAnew_136 (by decide) (fun c55 => ?_) (fun c55 => ?_)
        · rw [if_neg c55] at h
          refine wk_iconst C (v := 0) dL_isAnew_167 (by decide) ?_
          exact E _ _ _ _ _ _ hk53 hn54 dL_isAnew_168 rfl ⟨(0 : Int32), rfl, h, hWS51, (wkExt.tr (wkExt.tr (wkExt.tr hE hXS40) hXS46) hXS51)⟩
        · rw [if_pos c55] at h
          refine wk_aload_n C dL_isAnew_139 rfl rfl ?_
          refine wk_iload_n C dL_isAnew_140 rfl rfl ?_
          obtain ⟨k59, n60, hk59, hn60, h⟩ := h
          refine wk_callT C hR (As := [.ref l1A, .int l2I]) (cnt := 2) (tL_number (l := l) hst hcs hex hlt hWS51 (hXS51 _ _ (hXS46 _ _ (hXS40 _ _ hl1A))) h) rfl (wkGoodW (List.mem_of_getElem? (i := 18) rfl) (List.mem_of_getElem? (i := 19) rfl) (List.mem_of_getElem? (i := 3) rfl) hbL_isAnew_L_number gdL_number) (Nat.le_trans (by decide : 57 + 1 ≤ 58) hd) (by decide) ⟨by decide, by decide, by decide +kernel⟩ rfl rfl (Nat.le_of_ble_eq_true rfl) hk59 hn60 dL_isAnew_141 (fun v' S57 hp => ?_)
          obtain ⟨v56, rfl, h, hWS57, hXS57⟩ := hp
          refine wk_aload_n C dL_isAnew_144 rfl rfl ?_
          refine wk_iload_n C dL_isAnew_145 rfl rfl ?_
          obtain ⟨k64, n65, hk64, hn65, h⟩ := h
          refine wk_callT C hR (As := [.ref l0A, .int l2I]) (cnt := 2) (tL_number (l := l) hst hcs hex hlt hWS57 (hXS57 _ _ (hXS51 _ _ (hXS46 _ _ (hXS40 _ _ hl0A)))) h) rfl (wkGoodW (List.mem_of_getElem? (i := 18) rfl) (List.mem_of_getElem? (i := 19) rfl) (List.mem_of_getElem? (i := 3) rfl) hbL_isAnew_L_number gdL_number) (Nat.le_trans (by decide : 57 + 1 ≤ 58) hd) (by decide) ⟨by decide, by decide, by decide +kernel⟩ rfl rfl (Nat.le_of_ble_eq_true rfl) hk64 hn65 dL_isAnew_146 (fun v' S62 hp => ?_)
          obtain ⟨v61, rfl, h, hWS62, hXS62⟩ := hp
          refine wk_lcmp C dL_isAnew_149 rfl ?_
          refine wk_if_ne C (tgt := 167) dL_isAnew_150 (by decide) (fun c66 => ?_) (fun c66 => ?_)
          · rw [if_neg c66] at h
            refine wk_iconst C (v := 0) dL_isAnew_167 (by decide) ?_
            exact E _ _ _ _ _ _ hk64 hn65 dL_isAnew_168 rfl ⟨(0 : Int32), rfl, h, hWS62, (wkExt.tr (wkExt.tr (wkExt.tr (wkExt.tr (wkExt.tr hE hXS40) hXS46) hXS51) hXS57) hXS62)⟩
          · rw [if_pos c66] at h
            refine wk_aload_n C dL_isAnew_153 rfl rfl ?_
            refine wk_iload_n C dL_isAnew_154 rfl rfl ?_
            obtain ⟨k70, n71, hk70, hn71, h⟩ := h
            refine wk_callT C hR (As := [.ref l1A, .int l2I]) (cnt := 2) (tL_rowSum (l := l) hst hcs hex hlt hWS62 (hXS62 _ _ (hXS57 _ _ (hXS51 _ _ (hXS46 _ _ (hXS40 _ _ hl1A))))) h) rfl (wkGoodW (List.mem_of_getElem? (i := 20) rfl) (List.mem_of_getElem? (i := 21) rfl) (List.mem_of_getElem? (i := 3) rfl) hbL_isAnew_L_rowSum gdL_rowSum) (Nat.le_trans (by decide : 57 + 1 ≤ 58) hd) (by decide) ⟨by decide, by decide, by decide +kernel⟩ rfl rfl (Nat.le_of_ble_eq_true rfl) hk70 hn71 dL_isAnew_155 (fun v' S68 hp => ?_)
            obtain ⟨v67, rfl, h, hWS68, hXS68⟩ := hp
            refine wk_aload_n C dL_isAnew_158 rfl rfl ?_
            refine wk_iload_n C dL_isAnew_159 rfl rfl ?_
            obtain ⟨k75, n76, hk75, hn76, h⟩ := h
            refine wk_callT C hR (As := [.ref l0A, .int l2I]) (cnt := 2) (tL_rowSum (l := l) hst hcs hex hlt hWS68 (hXS68 _ _ (hXS62 _ _ (hXS57 _ _ (hXS51 _ _ (hXS46 _ _ (hXS40 _ _ hl0A)))))) h) rfl (wkGoodW (List.mem_of_getElem? (i := 20) rfl) (List.mem_of_getElem? (i := 21) rfl) (List.mem_of_getElem? (i := 3) rfl) hbL_isAnew_L_rowSum gdL_rowSum) (Nat.le_trans (by decide : 57 + 1 ≤ 58) hd) (by decide) ⟨by decide, by decide, by decide +kernel⟩ rfl rfl (Nat.le_of_ble_eq_true rfl) hk75 hn76 dL_isAnew_160 (fun v' S73 hp => ?_)
            obtain ⟨v72, rfl, h, hWS73, hXS73⟩ := hp
            refine wk_lcmp C dL_isAnew_163 rfl ?_
            refine wk_if_eq C (tgt := 169) dL_isAnew_164 (by decide) (fun c77 => ?_) (fun c77 => ?_)
            · rw [if_pos c77] at h
              obtain ⟨x78, ex78, h⟩ := wkLt_some h
              refine wk_iinc C (lv' := [some (.ref l0A), some (.ref l1A), some (.int x78), some (.int l3I)]) dL_isAnew_169 rfl (by rw [ex78]; rfl) (by decide) rfl ?_
              refine wk_goto C (tgt := 10) dL_isAnew_172 (by decide) ?_
              exact wk_forget (lv' := [some (.ref l0A), some (.ref l1A), some (.int x78), none]) (wkLs.le ⟨rfl, rfl, rfl, trivial⟩) (ih.1 _ _ hk75 hn76 _ _ _ _ hWS73 (wkExt.tr (wkExt.tr (wkExt.tr (wkExt.tr (wkExt.tr (wkExt.tr (wkExt.tr hE hXS40) hXS46) hXS51) hXS57) hXS62) hXS68) hXS73) (hXS73 _ _ (hXS68 _ _ (hXS62 _ _ (hXS57 _ _ (hXS51 _ _ (hXS46 _ _ (hXS40 _ _ hl0A))))))) (hXS73 _ _ (hXS68 _ _ (hXS62 _ _ (hXS57 _ _ (hXS51 _ _ (hXS46 _ _ (hXS40 _ _ hl1A))))))) h)
            · rw [if_neg c77] at h
              refine wk_iconst C (v := 0) dL_isAnew_167 (by decide) ?_
              exact E _ _ _ _ _ _ hk75 hn76 dL_isAnew_168 rfl ⟨(0 : Int32), rfl, h, hWS73, (wkExt.tr (wkExt.tr (wkExt.tr (wkExt.tr (wkExt.tr (wkExt.tr (wkExt.tr hE hXS40) hXS46) hXS51) hXS57) hXS62) hXS68) hXS73)⟩
      · rw [if_neg c44] at h
        refine wk_aload_n C dL_isAnew_64 rfl rfl ?_
        refine wk_iload_n C dL_isAnew_65 rfl rfl ?_
        refine wk_aload_n C dL_isAnew_66 rfl rfl ?_
        refine wk_iload_n C dL_isAnew_67 rfl rfl ?_
        refine wk_iload_n C dL_isAnew_68 rfl rfl ?_
        refine wk_iconst C (v := 0) dL_isAnew_69 (by decide) ?_
        obtain ⟨k82, n83, hk82, hn83, h⟩ := h
        refine wk_callT C hR (As := [.ref l0A, .int l2I, .int l3I, .int (0 : Int32)]) (cnt := 4) (tL_item (l := l) hcs hex hlt hWS40 (hXS40 _ _ hl0A) h) rfl (wkGoodW (List.mem_of_getElem? (i := 22) rfl) (List.mem_of_getElem? (i := 23) rfl) (List.mem_of_getElem? (i := 3) rfl) hbL_isAnew_L_item gdL_item) (Nat.le_trans (by decide : 8 + 1 ≤ 58) hd) (by decide) ⟨by decide, by decide, by decide +kernel⟩ rfl rfl (Nat.le_of_ble_eq_true rfl) hk82 hn83 dL_isAnew_70 (fun v' S80 hp => ?_)
        obtain ⟨v79, rfl, h, hWS80, hXS80⟩ := hp
        refine wk_l2i C dL_isAnew_73 rfl ?_
        refine wk_aload_n C dL_isAnew_74 rfl rfl ?_
        refine wk_iload_n C dL_isAnew_75 rfl rfl ?_
        refine wk_iload_n C dL_isAnew_76 rfl rfl ?_
        refine wk_iconst C (v := 1) dL_isAnew_77 (by decide) ?_
        obtain ⟨k87, n88, hk87, hn88, h⟩ := h
        refine wk_callT C hR (As := [.ref l0A, .int l2I, .int l3I, .int (1 : Int32)]) (cnt := 4) (tL_item (l := l) hcs hex hlt hWS80 (hXS80 _ _ (hXS40 _ _ hl0A)) h) rfl (wkGoodW (List.mem_of_getElem? (i := 22) rfl) (List.mem_of_getElem? (i := 23) rfl) (List.mem_of_getElem? (i := 3) rfl) hbL_isAnew_L_item gdL_item) (Nat.le_trans (by decide : 8 + 1 ≤ 58) hd) (by decide) ⟨by decide, by decide, by decide +kernel⟩ rfl rfl (Nat.le_of_ble_eq_true rfl) hk87 hn88 dL_isAnew_78 (fun v' S85 hp => ?_)
        obtain ⟨v84, rfl, h, hWS85, hXS85⟩ := hp
        refine wk_l2i C dL_isAnew_81 rfl ?_
        refine wk_aload_n C dL_isAnew_82 rfl rfl ?_
        refine wk_iload_n C dL_isAnew_83 rfl rfl ?_
        refine wk_iload_n C dL_isAnew_84 rfl rfl ?_
        refine wk_iconst C (v := 2) dL_isAnew_85 (by decide) ?_
        obtain ⟨k92, n93, hk92, hn93, h⟩ := h
        refine wk_callT C hR (As := [.ref l0A, .int l2I, .int l3I, .int (2 : Int32)]) (cnt := 4) (tL_item (l := l) hcs hex hlt hWS85 (hXS85 _ _ (hXS80 _ _ (hXS40 _ _ hl0A))) h) rfl (wkGoodW (List.mem_of_getElem? (i := 22) rfl) (List.mem_of_getElem? (i := 23) rfl) (List.mem_of_getElem? (i := 3) rfl) hbL_isAnew_L_item gdL_item) (Nat.le_trans (by decide : 8 + 1 ≤ 58) hd) (by decide) ⟨by decide, by decide, by decide +kernel⟩ rfl rfl (Nat.le_of_ble_eq_true rfl) hk92 hn93 dL_isAnew_86 (fun v' S90 hp => ?_)
        obtain ⟨v89, rfl, h, hWS90, hXS90⟩ := hp
        refine wk_l2i C dL_isAnew_89 rfl ?_
        refine wk_aload_n C dL_isAnew_90 rfl rfl ?_
        refine wk_iload_n C dL_isAnew_91 rfl rfl ?_
        refine wk_iload_n C dL_isAnew_92 rfl rfl ?_
        refine wk_iconst C (v := 3) dL_isAnew_93 (by decide) ?_
        obtain ⟨k97, n98, hk97, hn98, h⟩ := h
        refine wk_callT C hR (As := [.ref l0A, .int l2I, .int l3I, .int (3 : Int32)]) (cnt := 4) (tL_item (l := l) hcs hex hlt hWS90 (hXS90 _ _ (hXS85 _ _ (hXS80 _ _ (hXS40 _ _ hl0A)))) h) rfl (wkGoodW (List.mem_of_getElem? (i := 22) rfl) (List.mem_of_getElem? (i := 23) rfl) (List.mem_of_getElem? (i := 3) rfl) hbL_isAnew_L_item gdL_item) (Nat.le_trans (by decide : 8 + 1 ≤ 58) hd) (by decide) ⟨by decide, by decide, by decide +kernel⟩ rfl rfl (Nat.le_of_ble_eq_true rfl) hk97 hn98 dL_isAnew_94 (fun v' S95 hp => ?_)
        obtain ⟨v94, rfl, h, hWS95, hXS95⟩ := hp
        refine wk_l2i C dL_isAnew_97 rfl ?_
        refine wk_aload_n C dL_isAnew_98 rfl rfl ?_
        refine wk_iload_n C dL_isAnew_99 rfl rfl ?_
        refine wk_iload_n C dL_isAnew_100 rfl rfl ?_
        refine wk_iconst C (v := 4) dL_isAnew_101 (by decide) ?_
        obtain ⟨k102, n103, hk102, hn103, h⟩ := h
        refine wk_callT C hR (As := [.ref l0A, .int l2I, .int l3I, .int (4 : Int32)]) (cnt := 4) (tL_item (l := l) hcs hex hlt hWS95 (hXS95 _ _ (hXS90 _ _ (hXS85 _ _ (hXS80 _ _ (hXS40 _ _ hl0A))))) h) rfl (wkGoodW (List.mem_of_getElem? (i := 22) rfl) (List.mem_of_getElem? (i := 23) rfl) (List.mem_of_getElem? (i := 3) rfl) hbL_isAnew_L_item gdL_item) (Nat.le_trans (by decide : 8 + 1 ≤ 58) hd) (by decide) ⟨by decide, by decide, by decide +kernel⟩ rfl rfl (Nat.le_of_ble_eq_true rfl) hk102 hn103 dL_isAnew_102 (fun v' S100 hp => ?_)
        obtain ⟨v99, rfl, h, hWS100, hXS100⟩ := hp
        refine wk_l2i C dL_isAnew_105 rfl ?_
        obtain ⟨k107, n108, hk107, hn108, h⟩ := h
        refine wk_callT C hR (As := [.ref l1A, .int l2I, .int (Int64.toInt32 v79), .int (Int64.toInt32 v84), .int (Int64.toInt32 v89), .int (Int64.toInt32 v94), .int (Int64.toInt32 v99)]) (cnt := 7) (tL_put (l := l) hst hcs hex hlt hWS100 (hXS100 _ _ (hXS95 _ _ (hXS90 _ _ (hXS85 _ _ (hXS80 _ _ (hXS40 _ _ hl1A)))))) h) rfl (wkGoodW (List.mem_of_getElem? (i := 24) rfl) (List.mem_of_getElem? (i := 25) rfl) (List.mem_of_getElem? (i := 3) rfl) hbL_isAnew_L_put gdL_put) (Nat.le_trans (by decide : 8 + 1 ≤ 58) hd) (by decide) ⟨by decide, by decide, by decide +kernel⟩ rfl rfl (Nat.le_of_ble_eq_true rfl) hk107 hn108 dL_isAnew_106 (fun v' S105 hp => ?_)
        obtain ⟨v104, rfl, h, hWS105, hXS105⟩ := hp
        refine wk_iload_n C dL_isAnew_109 rfl rfl ?_
        refine wk_iconst C (v := 1) dL_isAnew_110 (by decide) ?_
        refine wk_iadd C dL_isAnew_111 rfl ?_
        refine wk_i2l C dL_isAnew_112 rfl ?_
        refine wk_lcmp C dL_isAnew_113 rfl ?_
        refine wk_if_eq C (tgt := 119) dL_isAnew_114 (by decide) (fun c109 => ?_) (fun c109 => ?_)
        · rw [if_pos c109] at h
          obtain ⟨x110, ex110, h⟩ := wkLt_some h
          refine wk_iinc C (lv' := [some (.ref l0A), some (.ref l1A), some (.int l2I), some (.int x110)]) dL_isAnew_119 rfl (by rw [ex110]; rfl) (by decide) rfl ?_
          refine wk_goto C (tgt := 53) dL_isAnew_122 (by decide) ?_
          exact wk_forget (lv' := [some (.ref l0A), some (.ref l1A), some (.int l2I), some (.int x110)]) (wkLs.le ⟨rfl, rfl, rfl, rfl, trivial⟩) (ih.2 _ _ hk107 hn108 _ _ _ _ _ hWS105 (wkExt.tr (wkExt.tr (wkExt.tr (wkExt.tr (wkExt.tr (wkExt.tr (wkExt.tr hE hXS40) hXS80) hXS85) hXS90) hXS95) hXS100) hXS105) (hXS105 _ _ (hXS100 _ _ (hXS95 _ _ (hXS90 _ _ (hXS85 _ _ (hXS80 _ _ (hXS40 _ _ hl0A))))))) (hXS105 _ _ (hXS100 _ _ (hXS95 _ _ (hXS90 _ _ (hXS85 _ _ (hXS80 _ _ (hXS40 _ _ hl1A))))))) h)
        · rw [if_neg c109] at h
          refine wk_iconst C (v := 0) dL_isAnew_117 (by decide) ?_
          exact E _ _ _ _ _ _ hk107 hn108 dL_isAnew_118 rfl ⟨(0 : Int32), rfl, h, hWS105, (wkExt.tr (wkExt.tr (wkExt.tr (wkExt.tr (wkExt.tr (wkExt.tr (wkExt.tr hE hXS40) hXS80) hXS85) hXS90) hXS95) hXS100) hXS105)⟩
set_option maxHeartbeats 4000000 in
set_option maxRecDepth 100000 in
theorem tL_isAnew {l : Launch} {g : wkG} {F : Nat} {k n : Nat}  {S : wPS} {l0A : Nat} {Φ : (Int32 → wPS → Prop)} (hst : wkSta g) (hstr : wkStr g) (hcs : wkCast g) (hex : wkExA g) (hlt : l.stackTraces = false) (hmk : wkMk g) (hW : wkWF S) (hl0A : wkIs S l0A 11) (h : rL_isAnew g F k n l0A S Φ) : wkMet l g yL_isAnew wvL_isAnew 58 k n [.ref l0A] S (fun v' S'' => ∃ v : Int32, v' = some (.int v) ∧ Φ v S'' ∧ wkWF S'' ∧ wkExt S S'') := by
  refine wkMet_of (ret := (some .boolean)) (by decide) rfl (Nat.le_of_ble_eq_true rfl) (fun X hg C hR E => ?_)
  subst hg
  have hE : wkExt S S := wkExt.rf
  have hd : 58 ≤ 58 := Nat.le_refl _
  show wkGo l X 4 0 0 0 S [some (.ref l0A), none, none, none] []
  have ih := tL_isAnew_go (F := F) hst hstr hcs hex hlt hmk C hR hd E F
  have h : rL_isAnew_s (wkXg X) F k n (rL_isAnew_go (wkXg X) F k n F) l0A S Φ := h
  unfold rL_isAnew_s at h
  obtain ⟨h111b, h111c, h⟩ := h
  refine wk_newO C hR huL_isAnew_11 (List.mem_of_getElem? (i := 26) rfl) (List.mem_of_getElem? (i := 27) rfl) (List.mem_of_getElem? (i := 28) rfl) rfl tyX11_ok (by decide) (fun cy S a b => wNw_11 cy S a b) h111b h111c dL_isAnew_0 (fun q112 h111e => ?_)
  obtain ⟨S113, eS113, h⟩ := wkLt_some (h q112 h111e)
  rw [← eS113]
  obtain ⟨hXS113, hIS113⟩ := wkExt_newO eS113 h111e
  refine wk_dup C dL_isAnew_3 rfl ?_
  obtain ⟨k116, n117, hk116, hn117, h⟩ := h
  refine wk_callIL C hR (y := yX11_init) (As := []) (cnt := 0) (tX11_init (l := l) hmk trivial hIS113 h) rfl (fun w h => ⟨hbL_isAnew_X11_init w h, gdX11_init w h⟩) (List.mem_of_getElem? (i := 29) rfl) rfl (List.mem_of_getElem? (i := 30) rfl) (List.mem_of_getElem? (i := 28) rfl) (Nat.le_trans (by decide : 3 + 1 ≤ 58) hd) (by decide) ⟨by decide, by decide, by decide +kernel⟩ rfl rfl (Nat.le_of_ble_eq_true rfl) hk116 hn117 dL_isAnew_4 (fun v' S115 hp => ?_)
  obtain ⟨v114, rfl, h, -, hXS115⟩ := hp
  obtain ⟨hWS115, h⟩ := h
  refine wk_astore_n C (lv' := [some (.ref l0A), some (.ref q112), none, none]) dL_isAnew_7 rfl (by decide) rfl ?_
  refine wk_iconst C (v := 0) dL_isAnew_8 (by decide) ?_
  refine wk_istore_n C (lv' := [some (.ref l0A), some (.ref q112), some (.int (0 : Int32)), none]) dL_isAnew_9 rfl (by decide) rfl ?_
  exact wk_forget (lv' := [some (.ref l0A), some (.ref q112), some (.int (0 : Int32)), none]) (wkLs.le ⟨rfl, rfl, rfl, trivial⟩) (ih.1 _ _ hk116 hn117 _ _ _ _ hWS115 (wkExt.tr (wkExt.tr hE hXS113) hXS115) (hXS115 _ _ (hXS113 _ _ hl0A)) (hXS115 _ _ hIS113) h)
