def wvX6_wonByFirst : List Cond := .code yX6_wonByFirst cX6_wonByFirst 10 (some .int) :: (([.methodLink RX6 133 yX6_drawnTo, .instanceMethod yX6_drawnTo, .selects RX6 yX6_drawnTo yX6_drawnTo, .initialized RX6, .methodLink RX6 108 yX6_wonByFirst, .instanceMethod yX6_wonByFirst, .selects RX6 yX6_wonByFirst yX6_wonByFirst, .methodLink RX6 127 yX6_greatestWeight, .instanceMethod yX6_greatestWeight, .selects RX6 yX6_greatestWeight yX6_greatestWeight, .methodLink RX6 130 yX6_withWeight, .instanceMethod yX6_withWeight, .selects RX6 yX6_withWeight yX6_withWeight] : List Cond) ++ (([]) ++ (wvX6_drawnTo ++ (wvX6_greatestWeight ++ (wvX6_withWeight)))))
theorem hbX6_wonByFirst_X6_drawnTo : ∀ w ∈ wvX6_drawnTo, w ∈ wvX6_wonByFirst := fun w h => List.mem_cons_of_mem _ (List.mem_append_right _ (List.mem_append_right _ (List.mem_append_left _ h)))
theorem hbX6_wonByFirst_X6_greatestWeight : ∀ w ∈ wvX6_greatestWeight, w ∈ wvX6_wonByFirst := fun w h => List.mem_cons_of_mem _ (List.mem_append_right _ (List.mem_append_right _ (List.mem_append_right _ (List.mem_append_left _ h))))
theorem hbX6_wonByFirst_X6_withWeight : ∀ w ∈ wvX6_withWeight, w ∈ wvX6_wonByFirst := fun w h => List.mem_cons_of_mem _ (List.mem_append_right _ (List.mem_append_right _ (List.mem_append_right _ (List.mem_append_right _ h))))
theorem gdX6_wonByFirst : ∀ w ∈ wvX6_wonByFirst, wkGd w := wkGdC rfl (wkGdA (wkGdL (by decide +kernel)) (wkGdA (fun _ h => absurd h List.not_mem_nil) (wkGdA gdX6_drawnTo (wkGdA gdX6_greatestWeight gdX6_withWeight))))
def rX6_wonByFirst_b0 (F : Nat) (rc : Nat → Int32 → Int32 → wPS → (Int32 → wPS → Prop) → Prop) (rec : Nat → Nat → Int32 → Int32 → Int32 → Int32 → wPS → (Int32 → wPS → Prop) → Prop) (l0A : Nat) (l1I : Int32) (l2I : Int32) (l4I : Int32) (s0I : Int32) (S : wPS) (Φ : (Int32 → wPS → Prop)) : Prop :=
  if s0I = 0 then (if l4I = 0 then (Φ l1I S) else (Φ (0 : Int32) S)) else (rX6_drawnTo F l0A s0I ((1 : Int32) - l4I) l1I S fun v2 S3 => rc l0A (l1I &&& (v2 ^^^ (-1 : Int32))) (l2I + (1 : Int32)) S3 fun v7 S8 => if l4I = 0 then (Φ v7 S8) else (Φ (v7 ||| v2) S8))
def rX6_wonByFirst_go (F : Nat) (rc : Nat → Int32 → Int32 → wPS → (Int32 → wPS → Prop) → Prop) : Nat → Nat → Nat → Int32 → Int32 → Int32 → Int32 → wPS → (Int32 → wPS → Prop) → Prop
  | 0, _, _, _, _, _, _, _, _ => False
  | k' + 1, lab, l0A, l1I, l2I, l4I, s0I, S, Φ => if lab = 0 then rX6_wonByFirst_b0 F rc (rX6_wonByFirst_go F rc k') l0A l1I l2I l4I s0I S Φ else False
def rX6_wonByFirst_s (F : Nat) (rc : Nat → Int32 → Int32 → wPS → (Int32 → wPS → Prop) → Prop) (rec : Nat → Nat → Int32 → Int32 → Int32 → Int32 → wPS → (Int32 → wPS → Prop) → Prop) (l0A : Nat) (l1I : Int32) (l2I : Int32) (S : wPS) (Φ : (Int32 → wPS → Prop)) : Prop :=
  if l1I = 0 then (Φ (0 : Int32) S) else (if l2I ≤ (8 : Int32) then (rX6_greatestWeight F l0A l1I S fun v16 S17 => wkLt ((v16 - v16 / (2 : Int32) * (2 : Int32))) fun x21 => rX6_withWeight F l0A l1I v16 S17 fun v22 S23 => rX6_drawnTo F l0A v22 x21 l1I S23 fun v27 S28 => wkLt ((l1I &&& (v27 ^^^ (-1 : Int32)))) fun x32 => rc l0A x32 (l2I + (1 : Int32)) S28 fun v33 S34 => if x21 = 0 then (rec 0 l0A l1I l2I x21 (x32 &&& (v33 ^^^ (-1 : Int32))) S34 Φ) else (rec 0 l0A l1I l2I x21 v33 S34 Φ)) else (Φ (0 : Int32) S))
def rX6_wonByFirst_a (F : Nat) (rc : Nat → Int32 → Int32 → wPS → (Int32 → wPS → Prop) → Prop) (l0A : Nat) (l1I : Int32) (l2I : Int32) (S : wPS) (Φ : (Int32 → wPS → Prop)) : Prop := rX6_wonByFirst_s F rc (rX6_wonByFirst_go F rc F) l0A l1I l2I S Φ
def rX6_wonByFirst (F : Nat) : Nat → Nat → Int32 → Int32 → wPS → (Int32 → wPS → Prop) → Prop
  | 0, _, _, _, _, _ => False
  | j + 1, l0A, l1I, l2I, S, Φ => rX6_wonByFirst_a F (rX6_wonByFirst F j) l0A l1I l2I S Φ
set_option maxHeartbeats 4000000 in
set_option maxRecDepth 100000 in
theorem tX6_wonByFirst_go {d0 : Nat} {rc : Nat → Int32 → Int32 → wPS → (Int32 → wPS → Prop) → Prop} {l : Launch} {X : wkX} {d F : Nat} {S0 : wPS} {Φ : (Int32 → wPS → Prop)} (C : wkC X cX6_wonByFirst RX6 10 wvX6_wonByFirst) (hR : wkRm X d 0 0) (hd : 2 ≤ d) (hrc : ∀ (l0A : Nat) (l1I : Int32) (l2I : Int32) (S : wPS) (Φ : (Int32 → wPS → Prop)), wkWF S → wkIs S l0A 6 → rc l0A l1I l2I S Φ → wkMet l (wkXg X) yX6_wonByFirst wvX6_wonByFirst d0 0 0 [.ref l0A, .int l1I, .int l2I] S (fun v' S'' => ∃ v : Int32, v' = some (.int v) ∧ Φ v S'' ∧ wkWF S'' ∧ wkExt S S'')) (hd0 : d0 + 1 ≤ d) (E : wkEnd l X cX6_wonByFirst 10 (some .int) 0 0 (fun v' S'' => ∃ v : Int32, v' = some (.int v) ∧ Φ v S'' ∧ wkWF S'' ∧ wkExt S0 S'')) : ∀ k' : Nat, (∀ (l0A : Nat) (l1I : Int32) (l2I : Int32) (l4I : Int32) (s0I : Int32) (S : wPS), wkWF S → wkExt S0 S → wkIs S l0A 6 → rX6_wonByFirst_go F rc k' 0 l0A l1I l2I l4I s0I S Φ → wkGo l X 10 0 0 70 S [some (.ref l0A), some (.int l1I), some (.int l2I), none, some (.int l4I), none, none, none, none, none] [.int s0I]) := by
  intro k'
  induction k' with
  | zero => exact fun l0A l1I l2I l4I s0I S hW hE hl0A h => h.elim
  | succ k' ih =>
    · intro l0A l1I l2I l4I s0I S hW hE hl0A h
      have h : rX6_wonByFirst_b0 F rc (rX6_wonByFirst_go F rc k') l0A l1I l2I l4I s0I S Φ := by
        rw [rX6_wonByFirst_go, if_pos (rfl : (0 : Nat) = 0)] at h
        exact h
      unfold rX6_wonByFirst_b0 at h
      refine wk_istore C (lv' := [some (.ref l0A), some (.int l1I), some (.int l2I), none, some (.int l4I), none, none, some (.int s0I), none, none]) dX6_wonByFirst_70 (by decide) rfl ?_
      refine wk_iload C dX6_wonByFirst_72 rfl ?_
      refine wk_if_ne C (tgt := 88) dX6_wonByFirst_74 (by decide) (fun c1 => ?_) (fun c1 => ?_)
      · rw [if_neg c1] at h
        refine wk_aload_n C dX6_wonByFirst_88 rfl rfl ?_
        refine wk_iload C dX6_wonByFirst_89 rfl ?_
        refine wk_iconst C (v := 1) dX6_wonByFirst_91 (by decide) ?_
        refine wk_iload C dX6_wonByFirst_92 rfl ?_
        refine wk_isub C dX6_wonByFirst_94 rfl ?_
        refine wk_iload_n C dX6_wonByFirst_95 rfl rfl ?_
        refine wk_callV C hR (As := [.int s0I, .int ((1 : Int32) - l4I), .int l1I]) (cnt := 3) (tX6_drawnTo (l := l) hW hl0A h) rfl (wkGoodV (List.mem_of_getElem? (i := 1) rfl) (List.mem_of_getElem? (i := 2) rfl) (List.mem_of_getElem? (i := 3) rfl) (List.mem_of_getElem? (i := 4) rfl) hbX6_wonByFirst_X6_drawnTo gdX6_drawnTo) (Nat.le_trans (by decide : 1 + 1 ≤ 2) hd) (by decide) hl0A.1 (fun cy => wAt_6 cy _ hl0A.2) rfl ⟨by decide, by decide, by decide +kernel⟩ rfl rfl (Nat.le_of_ble_eq_true rfl) (Nat.le_refl 0) (Nat.le_refl 0) dX6_wonByFirst_96 (fun v' S3 hp => ?_)
        obtain ⟨v2, rfl, h, hWS3, hXS3⟩ := hp
        refine wk_istore C (lv' := [some (.ref l0A), some (.int l1I), some (.int l2I), none, some (.int l4I), none, none, some (.int s0I), some (.int v2), none]) dX6_wonByFirst_99 (by decide) rfl ?_
        refine wk_aload_n C dX6_wonByFirst_101 rfl rfl ?_
        refine wk_iload_n C dX6_wonByFirst_102 rfl rfl ?_
        refine wk_iload C dX6_wonByFirst_103 rfl ?_
        refine wk_iconst C (v := (-1)) dX6_wonByFirst_105 (by decide) ?_
        refine wk_ixor C dX6_wonByFirst_106 rfl ?_
        refine wk_iand C dX6_wonByFirst_107 rfl ?_
        refine wk_iload_n C dX6_wonByFirst_108 rfl rfl ?_
        refine wk_iconst C (v := 1) dX6_wonByFirst_109 (by decide) ?_
        refine wk_iadd C dX6_wonByFirst_110 rfl ?_
        refine wk_callV C hR (As := [.int (l1I &&& (v2 ^^^ (-1 : Int32))), .int (l2I + (1 : Int32))]) (cnt := 2) (hrc _ _ _ _ _ hWS3 (hXS3 _ _ hl0A) h) rfl (wkGoodV (List.mem_of_getElem? (i := 5) rfl) (List.mem_of_getElem? (i := 6) rfl) (List.mem_of_getElem? (i := 7) rfl) (List.mem_of_getElem? (i := 4) rfl) (fun w h => h) gdX6_wonByFirst) hd0 (by decide) (hXS3 _ _ hl0A).1 (fun cy => wAt_6 cy _ (hXS3 _ _ hl0A).2) rfl ⟨by decide, by decide, by decide +kernel⟩ rfl rfl (Nat.le_of_ble_eq_true rfl) (Nat.le_refl 0) (Nat.le_refl 0) dX6_wonByFirst_111 (fun v' S8 hp => ?_)
        obtain ⟨v7, rfl, h, hWS8, hXS8⟩ := hp
        refine wk_istore C (lv' := [some (.ref l0A), some (.int l1I), some (.int l2I), none, some (.int l4I), none, none, some (.int s0I), some (.int v2), some (.int v7)]) dX6_wonByFirst_114 (by decide) rfl ?_
        refine wk_iload C dX6_wonByFirst_116 rfl ?_
        refine wk_if_ne C (tgt := 126) dX6_wonByFirst_118 (by decide) (fun c12 => ?_) (fun c12 => ?_)
        · rw [if_neg c12] at h
          refine wk_iload C dX6_wonByFirst_126 rfl ?_
          refine wk_iload C dX6_wonByFirst_128 rfl ?_
          refine wk_ior C dX6_wonByFirst_130 rfl ?_
          exact E _ _ _ _ _ _ (Nat.le_refl 0) (Nat.le_refl 0) dX6_wonByFirst_131 ⟨(v7 ||| v2), rfl, h, hWS8, (wkExt.tr (wkExt.tr hE hXS3) hXS8)⟩
        · rw [if_pos c12] at h
          refine wk_iload C dX6_wonByFirst_121 rfl ?_
          refine wk_goto C (tgt := 131) dX6_wonByFirst_123 (by decide) ?_
          exact E _ _ _ _ _ _ (Nat.le_refl 0) (Nat.le_refl 0) dX6_wonByFirst_131 ⟨v7, rfl, h, hWS8, (wkExt.tr (wkExt.tr hE hXS3) hXS8)⟩
      · rw [if_pos c1] at h
        refine wk_iload C dX6_wonByFirst_77 rfl ?_
        refine wk_if_ne C (tgt := 86) dX6_wonByFirst_79 (by decide) (fun c13 => ?_) (fun c13 => ?_)
        · rw [if_neg c13] at h
          refine wk_iconst C (v := 0) dX6_wonByFirst_86 (by decide) ?_
          exact E _ _ _ _ _ _ (Nat.le_refl 0) (Nat.le_refl 0) dX6_wonByFirst_87 ⟨(0 : Int32), rfl, h, hW, hE⟩
        · rw [if_pos c13] at h
          refine wk_iload_n C dX6_wonByFirst_82 rfl rfl ?_
          refine wk_goto C (tgt := 87) dX6_wonByFirst_83 (by decide) ?_
          exact E _ _ _ _ _ _ (Nat.le_refl 0) (Nat.le_refl 0) dX6_wonByFirst_87 ⟨l1I, rfl, h, hW, hE⟩
set_option maxHeartbeats 4000000 in
set_option maxRecDepth 100000 in
theorem tX6_wonByFirst_a {l : Launch} {g : wkG} {F d0 : Nat} {rc : Nat → Int32 → Int32 → wPS → (Int32 → wPS → Prop) → Prop} (hrc : ∀ (l0A : Nat) (l1I : Int32) (l2I : Int32) (S : wPS) (Φ : (Int32 → wPS → Prop)), wkWF S → wkIs S l0A 6 → rc l0A l1I l2I S Φ → wkMet l g yX6_wonByFirst wvX6_wonByFirst d0 0 0 [.ref l0A, .int l1I, .int l2I] S (fun v' S'' => ∃ v : Int32, v' = some (.int v) ∧ Φ v S'' ∧ wkWF S'' ∧ wkExt S S'')) {S : wPS} {l0A : Nat} {l1I : Int32} {l2I : Int32} {Φ : (Int32 → wPS → Prop)} (hW : wkWF S) (hl0A : wkIs S l0A 6) (h : rX6_wonByFirst_a F rc l0A l1I l2I S Φ) {d : Nat} (hd0 : d0 + 1 ≤ d) (hd : 2 ≤ d) : wkMet l g yX6_wonByFirst wvX6_wonByFirst d 0 0 [.ref l0A, .int l1I, .int l2I] S (fun v' S'' => ∃ v : Int32, v' = some (.int v) ∧ Φ v S'' ∧ wkWF S'' ∧ wkExt S S'') := by
  refine wkMet_of (ret := (some .int)) (by decide) rfl (Nat.le_of_ble_eq_true rfl) (fun X hg C hR E => ?_)
  subst hg
  have hE : wkExt S S := wkExt.rf
  show wkGo l X 10 0 0 0 S [some (.ref l0A), some (.int l1I), some (.int l2I), none, none, none, none, none, none, none] []
  have ih := tX6_wonByFirst_go (F := F) C hR hd hrc hd0 E F
  have h : rX6_wonByFirst_s F rc (rX6_wonByFirst_go F rc F) l0A l1I l2I S Φ := h
  unfold rX6_wonByFirst_s at h
  refine wk_iload_n C dX6_wonByFirst_0 rfl rfl ?_
  refine wk_if_eq C (tgt := 10) dX6_wonByFirst_1 (by decide) (fun c14 => ?_) (fun c14 => ?_)
  · rw [if_pos c14] at h
    refine wk_iconst C (v := 0) dX6_wonByFirst_10 (by decide) ?_
    exact E _ _ _ _ _ _ (Nat.le_refl 0) (Nat.le_refl 0) dX6_wonByFirst_11 ⟨(0 : Int32), rfl, h, hW, hE⟩
  · rw [if_neg c14] at h
    refine wk_iload_n C dX6_wonByFirst_4 rfl rfl ?_
    refine wk_bipush C (v := 8) dX6_wonByFirst_5 (by decide) ?_
    refine wk_icmp_le C (tgt := 12) dX6_wonByFirst_7 (by decide) (fun c15 => ?_) (fun c15 => ?_)
    · rw [if_pos c15] at h
      refine wk_aload_n C dX6_wonByFirst_12 rfl rfl ?_
      refine wk_iload_n C dX6_wonByFirst_13 rfl rfl ?_
      refine wk_callV C hR (As := [.int l1I]) (cnt := 1) (tX6_greatestWeight (l := l) hW hl0A h) rfl (wkGoodV (List.mem_of_getElem? (i := 8) rfl) (List.mem_of_getElem? (i := 9) rfl) (List.mem_of_getElem? (i := 10) rfl) (List.mem_of_getElem? (i := 4) rfl) hbX6_wonByFirst_X6_greatestWeight gdX6_greatestWeight) (Nat.le_trans (by decide : 1 + 1 ≤ 2) hd) (by decide) hl0A.1 (fun cy => wAt_6 cy _ hl0A.2) rfl ⟨by decide, by decide, by decide +kernel⟩ rfl rfl (Nat.le_of_ble_eq_true rfl) (Nat.le_refl 0) (Nat.le_refl 0) dX6_wonByFirst_14 (fun v' S17 hp => ?_)
      obtain ⟨v16, rfl, h, hWS17, hXS17⟩ := hp
      refine wk_istore_n C (lv' := [some (.ref l0A), some (.int l1I), some (.int l2I), some (.int v16), none, none, none, none, none, none]) dX6_wonByFirst_17 rfl (by decide) rfl ?_
      refine wk_iload_n C dX6_wonByFirst_18 rfl rfl ?_
      refine wk_iconst C (v := 2) dX6_wonByFirst_19 (by decide) ?_
      refine wk_irem C dX6_wonByFirst_20 (by decide) rfl ?_
      obtain ⟨x21, ex21, h⟩ := wkLt_some h
      refine wk_topi ex21 ?_
      refine wk_istore C (lv' := [some (.ref l0A), some (.int l1I), some (.int l2I), some (.int v16), some (.int x21), none, none, none, none, none]) dX6_wonByFirst_21 (by decide) rfl ?_
      refine wk_iload_n C dX6_wonByFirst_23 rfl rfl ?_
      refine wk_aload_n C dX6_wonByFirst_24 rfl rfl ?_
      refine wk_aload_n C dX6_wonByFirst_25 rfl rfl ?_
      refine wk_iload_n C dX6_wonByFirst_26 rfl rfl ?_
      refine wk_iload_n C dX6_wonByFirst_27 rfl rfl ?_
      refine wk_callV C hR (As := [.int l1I, .int v16]) (cnt := 2) (tX6_withWeight (l := l) hWS17 (hXS17 _ _ hl0A) h) rfl (wkGoodV (List.mem_of_getElem? (i := 11) rfl) (List.mem_of_getElem? (i := 12) rfl) (List.mem_of_getElem? (i := 13) rfl) (List.mem_of_getElem? (i := 4) rfl) hbX6_wonByFirst_X6_withWeight gdX6_withWeight) (Nat.le_trans (by decide : 1 + 1 ≤ 2) hd) (by decide) (hXS17 _ _ hl0A).1 (fun cy => wAt_6 cy _ (hXS17 _ _ hl0A).2) rfl ⟨by decide, by decide, by decide +kernel⟩ rfl rfl (Nat.le_of_ble_eq_true rfl) (Nat.le_refl 0) (Nat.le_refl 0) dX6_wonByFirst_28 (fun v' S23 hp => ?_)
      obtain ⟨v22, rfl, h, hWS23, hXS23⟩ := hp
      refine wk_iload C dX6_wonByFirst_31 rfl ?_
      refine wk_iload_n C dX6_wonByFirst_33 rfl rfl ?_
      refine wk_callV C hR (As := [.int v22, .int x21, .int l1I]) (cnt := 3) (tX6_drawnTo (l := l) hWS23 (hXS23 _ _ (hXS17 _ _ hl0A)) h) rfl (wkGoodV (List.mem_of_getElem? (i := 1) rfl) (List.mem_of_getElem? (i := 2) rfl) (List.mem_of_getElem? (i := 3) rfl) (List.mem_of_getElem? (i := 4) rfl) hbX6_wonByFirst_X6_drawnTo gdX6_drawnTo) (Nat.le_trans (by decide : 1 + 1 ≤ 2) hd) (by decide) (hXS23 _ _ (hXS17 _ _ hl0A)).1 (fun cy => wAt_6 cy _ (hXS23 _ _ (hXS17 _ _ hl0A)).2) rfl ⟨by decide, by decide, by decide +kernel⟩ rfl rfl (Nat.le_of_ble_eq_true rfl) (Nat.le_refl 0) (Nat.le_refl 0) dX6_wonByFirst_34 (fun v' S28 hp => ?_)
      obtain ⟨v27, rfl, h, hWS28, hXS28⟩ := hp
      refine wk_iconst C (v := (-1)) dX6_wonByFirst_37 (by decide) ?_
      refine wk_ixor C dX6_wonByFirst_38 rfl ?_
      refine wk_iand C dX6_wonByFirst_39 rfl ?_
      obtain ⟨x32, ex32, h⟩ := wkLt_some h
      refine wk_topi ex32 ?_
      refine wk_istore C (lv' := [some (.ref l0A), some (.int l1I), some (.int l2I), some (.int v16), some (.int x21), some (.int x32), none, none, none, none]) dX6_wonByFirst_40 (by decide) rfl ?_
      refine wk_aload_n C dX6_wonByFirst_42 rfl rfl ?_
      refine wk_iload C dX6_wonByFirst_43 rfl ?_
      refine wk_iload_n C dX6_wonByFirst_45 rfl rfl ?_
      refine wk_iconst C (v := 1) dX6_wonByFirst_46 (by decide) ?_
      refine wk_iadd C dX6_wonByFirst_47 rfl ?_
      refine wk_callV C hR (As := [.int x32, .int (l2I + (1 : Int32))]) (cnt := 2) (hrc _ _ _ _ _ hWS28 (hXS28 _ _ (hXS23 _ _ (hXS17 _ _ hl0A))) h) rfl (wkGoodV (List.mem_of_getElem? (i := 5) rfl) (List.mem_of_getElem? (i := 6) rfl) (List.mem_of_getElem? (i := 7) rfl) (List.mem_of_getElem? (i := 4) rfl) (fun w h => h) gdX6_wonByFirst) hd0 (by decide) (hXS28 _ _ (hXS23 _ _ (hXS17 _ _ hl0A))).1 (fun cy => wAt_6 cy _ (hXS28 _ _ (hXS23 _ _ (hXS17 _ _ hl0A))).2) rfl ⟨by decide, by decide, by decide +kernel⟩ rfl rfl (Nat.le_of_ble_eq_true rfl) (Nat.le_refl 0) (Nat.le_refl 0) dX6_wonByFirst_48 (fun v' S34 hp => ?_)
      obtain ⟨v33, rfl, h, hWS34, hXS34⟩ := hp
      refine wk_istore C (lv' := [some (.ref l0A), some (.int l1I), some (.int l2I), some (.int v16), some (.int x21), some (.int x32), some (.int v33), none, none, none]) dX6_wonByFirst_51 (by decide) rfl ?_
      refine wk_iload C dX6_wonByFirst_53 rfl ?_
      refine wk_if_ne C (tgt := 68) dX6_wonByFirst_55 (by decide) (fun c38 => ?_) (fun c38 => ?_)
      · rw [if_neg c38] at h
        refine wk_iload C dX6_wonByFirst_68 rfl ?_
        exact wk_forget (lv' := [some (.ref l0A), some (.int l1I), some (.int l2I), none, some (.int x21), none, none, none, none, none]) (wkLs.le ⟨rfl, rfl, rfl, rfl, trivial⟩) (ih _ _ _ _ _ _ hWS34 (wkExt.tr (wkExt.tr (wkExt.tr (wkExt.tr hE hXS17) hXS23) hXS28) hXS34) (hXS34 _ _ (hXS28 _ _ (hXS23 _ _ (hXS17 _ _ hl0A)))) h)
      · rw [if_pos c38] at h
        refine wk_iload C dX6_wonByFirst_58 rfl ?_
        refine wk_iload C dX6_wonByFirst_60 rfl ?_
        refine wk_iconst C (v := (-1)) dX6_wonByFirst_62 (by decide) ?_
        refine wk_ixor C dX6_wonByFirst_63 rfl ?_
        refine wk_iand C dX6_wonByFirst_64 rfl ?_
        refine wk_goto C (tgt := 70) dX6_wonByFirst_65 (by decide) ?_
        exact wk_forget (lv' := [some (.ref l0A), some (.int l1I), some (.int l2I), none, some (.int x21), none, none, none, none, none]) (wkLs.le ⟨rfl, rfl, rfl, rfl, trivial⟩) (ih _ _ _ _ _ _ hWS34 (wkExt.tr (wkExt.tr (wkExt.tr (wkExt.tr hE hXS17) hXS23) hXS28) hXS34) (hXS34 _ _ (hXS28 _ _ (hXS23 _ _ (hXS17 _ _ hl0A)))) h)
    · rw [if_neg c15] at h
      refine wk_iconst C (v := 0) dX6_wonByFirst_10 (by decide) ?_
      exact E _ _ _ _ _ _ (Nat.le_refl 0) (Nat.le_refl 0) dX6_wonByFirst_11 ⟨(0 : Int32), rfl, h, hW, hE⟩
theorem tX6_wonByFirst_d {l : Launch} {g : wkG} {F : Nat} : ∀ (j : Nat) (l0A : Nat) (l1I : Int32) (l2I : Int32) (S : wPS) (Φ : (Int32 → wPS → Prop)), wkWF S → wkIs S l0A 6 → rX6_wonByFirst F j l0A l1I l2I S Φ → wkMet l g yX6_wonByFirst wvX6_wonByFirst (2 + j) 0 0 [.ref l0A, .int l1I, .int l2I] S (fun v' S'' => ∃ v : Int32, v' = some (.int v) ∧ Φ v S'' ∧ wkWF S'' ∧ wkExt S S'')
  | 0, _, _, _, _, _, _, _,  h => h.elim
  | j + 1, _, _, _, S, Φ, hW, hl0A,  h => tX6_wonByFirst_a (d0 := 2 + j) (tX6_wonByFirst_d j) hW hl0A (d := 2 + (j + 1)) h (by omega) (by omega)
theorem tX6_wonByFirst {l : Launch} {g : wkG} {F : Nat} {S : wPS} {l0A : Nat} {l1I : Int32} {l2I : Int32} {Φ : (Int32 → wPS → Prop)} (hW : wkWF S) (hl0A : wkIs S l0A 6) (h : rX6_wonByFirst F 48 l0A l1I l2I S Φ) : wkMet l g yX6_wonByFirst wvX6_wonByFirst 50 0 0 [.ref l0A, .int l1I, .int l2I] S (fun v' S'' => ∃ v : Int32, v' = some (.int v) ∧ Φ v S'' ∧ wkWF S'' ∧ wkExt S S'') := tX6_wonByFirst_d 48 _ _ _ S Φ hW hl0A h
def wvX7_writePairing : List Cond := .code yX7_writePairing cX7_writePairing 6 none :: (([.methodLink RX7 82 yX9_add, .instanceMethod yX9_add, .selects RX9 yX9_add yX9_add, .initialized RX9, .static yX11_has, .initialized RX11, .methodLink RX7 88 yX7_partnerOf, .instanceMethod yX7_partnerOf, .selects RX7 yX7_partnerOf yX7_partnerOf, .initialized RX7, .methodLink RX7 92 yX9_set, .instanceMethod yX9_set, .selects RX9 yX9_set yX9_set] : List Cond) ++ (([]) ++ (wvX9_add ++ (wvX11_has ++ (wvX7_partnerOf ++ (wvX9_set))))))
theorem hbX7_writePairing_X9_add : ∀ w ∈ wvX9_add, w ∈ wvX7_writePairing := fun w h => List.mem_cons_of_mem _ (List.mem_append_right _ (List.mem_append_right _ (List.mem_append_left _ h)))
theorem hbX7_writePairing_X11_has : ∀ w ∈ wvX11_has, w ∈ wvX7_writePairing := fun w h => List.mem_cons_of_mem _ (List.mem_append_right _ (List.mem_append_right _ (List.mem_append_right _ (List.mem_append_left _ h))))
theorem hbX7_writePairing_X7_partnerOf : ∀ w ∈ wvX7_partnerOf, w ∈ wvX7_writePairing := fun w h => List.mem_cons_of_mem _ (List.mem_append_right _ (List.mem_append_right _ (List.mem_append_right _ (List.mem_append_right _ (List.mem_append_left _ h)))))
theorem hbX7_writePairing_X9_set : ∀ w ∈ wvX9_set, w ∈ wvX7_writePairing := fun w h => List.mem_cons_of_mem _ (List.mem_append_right _ (List.mem_append_right _ (List.mem_append_right _ (List.mem_append_right _ (List.mem_append_right _ h)))))
theorem gdX7_writePairing : ∀ w ∈ wvX7_writePairing, wkGd w := wkGdC rfl (wkGdA (wkGdL (by decide +kernel)) (wkGdA (fun _ h => absurd h List.not_mem_nil) (wkGdA gdX9_add (wkGdA gdX11_has (wkGdA gdX7_partnerOf gdX9_set)))))
def rX7_writePairing_b0 (F : Nat) (k n : Nat) (rec : Nat → Nat → Nat → Nat → Int32 → Nat → Int32 → Int32 → wPS → (Unit → wPS → Prop) → Prop) (c s : Nat) (l0A : Nat) (l1I : Int32) (l2A : Nat) (l3I : Int32) (S : wPS) (Φ : (Unit → wPS → Prop)) : Prop :=
  if l1I ≤ l3I then (wkLt ((((1 : Int32) <<< (l1I &&& 31)) - (1 : Int32))) fun x2 => rec 1 c s l0A l1I l2A x2 (0 : Int32) S Φ) else (∃ k6 n7 : Nat, c + k6 ≤ k ∧ s + n7 ≤ n ∧ rX9_add F k6 n7 l2A l3I S fun v3 S4 => wkLt (l3I + (1 : Int32)) fun x8 => rec 0 (c + k6) (s + n7) l0A l1I l2A x8 0 S4 Φ)
def rX7_writePairing_b1 (F : Nat) (k n : Nat) (rec : Nat → Nat → Nat → Nat → Int32 → Nat → Int32 → Int32 → wPS → (Unit → wPS → Prop) → Prop) (c s : Nat) (l0A : Nat) (l1I : Int32) (l2A : Nat) (l3I : Int32) (l4I : Int32) (S : wPS) (Φ : (Unit → wPS → Prop)) : Prop :=
  if l1I ≤ l4I then (Φ () S) else (rX11_has F l3I l4I S fun v10 S11 => if v10 = 0 then (wkLt (l4I + (1 : Int32)) fun x16 => rec 1 c s l0A l1I l2A l3I x16 S11 Φ) else (rX7_partnerOf F l0A l4I l3I l1I S11 fun v17 S18 => rX9_set F l2A l4I v17 S18 fun v22 S23 => rX9_set F l2A v17 l4I S23 fun v27 S28 => wkLt ((l3I &&& ((((1 : Int32) <<< (l4I &&& 31)) ||| ((1 : Int32) <<< (v17 &&& 31))) ^^^ (-1 : Int32)))) fun x32 => wkLt (l4I + (1 : Int32)) fun x33 => rec 1 c s l0A l1I l2A x32 x33 S28 Φ))
def rX7_writePairing_go (F : Nat) (k n : Nat) : Nat → Nat → Nat → Nat → Nat → Int32 → Nat → Int32 → Int32 → wPS → (Unit → wPS → Prop) → Prop
  | 0, _, _, _, _, _, _, _, _, _, _ => False
  | k' + 1, lab, c, s, l0A, l1I, l2A, l3I, l4I, S, Φ => if lab = 0 then rX7_writePairing_b0 F k n (rX7_writePairing_go F k n k') c s l0A l1I l2A l3I S Φ else if lab = 1 then rX7_writePairing_b1 F k n (rX7_writePairing_go F k n k') c s l0A l1I l2A l3I l4I S Φ else False
def rX7_writePairing_s (F : Nat) (k n : Nat) (rec : Nat → Nat → Nat → Nat → Int32 → Nat → Int32 → Int32 → wPS → (Unit → wPS → Prop) → Prop) (l0A : Nat) (l1I : Int32) (l2A : Nat) (S : wPS) (Φ : (Unit → wPS → Prop)) : Prop :=
  rec 0 0 0 l0A l1I l2A (0 : Int32) 0 S Φ
def rX7_writePairing (F : Nat) (k n : Nat) (l0A : Nat) (l1I : Int32) (l2A : Nat) (S : wPS) (Φ : (Unit → wPS → Prop)) : Prop := rX7_writePairing_s F k n (rX7_writePairing_go F k n F) l0A l1I l2A S Φ
set_option maxHeartbeats 4000000 in
set_option maxRecDepth 100000 in
theorem tX7_writePairing_go {k n : Nat} {l : Launch} {X : wkX} {d F : Nat} {S0 : wPS} {Φ : (Unit → wPS → Prop)} (C : wkC X cX7_writePairing RX7 6 wvX7_writePairing) (hR : wkRm X d k n) (hd : 3 ≤ d) (E : wkEnd l X cX7_writePairing 6 none k n (fun v' S'' => ∃ v : Unit, v' = none ∧ Φ v S'' ∧ wkWF S'' ∧ wkExt S0 S'')) : ∀ k' : Nat, (∀ (c s : Nat), c ≤ k → s ≤ n → ∀ (l0A : Nat) (l1I : Int32) (l2A : Nat) (l3I : Int32) (S : wPS), wkWF S → wkExt S0 S → wkIs S l0A 7 → wkIs S l2A 9 → rX7_writePairing_go F k n k' 0 c s l0A l1I l2A l3I 0 S Φ → wkGo l X 6 c s 2 S [some (.ref l0A), some (.int l1I), some (.ref l2A), some (.int l3I), none, none] []) ∧ (∀ (c s : Nat), c ≤ k → s ≤ n → ∀ (l0A : Nat) (l1I : Int32) (l2A : Nat) (l3I : Int32) (l4I : Int32) (S : wPS), wkWF S → wkExt S0 S → wkIs S l0A 7 → wkIs S l2A 9 → rX7_writePairing_go F k n k' 1 c s l0A l1I l2A l3I l4I S Φ → wkGo l X 6 c s 27 S [some (.ref l0A), some (.int l1I), some (.ref l2A), some (.int l3I), some (.int l4I), none] []) := by
  intro k'
  induction k' with
  | zero => exact ⟨fun c s hc hs l0A l1I l2A l3I S hW hE hl0A hl2A h => h.elim, fun c s hc hs l0A l1I l2A l3I l4I S hW hE hl0A hl2A h => h.elim⟩
  | succ k' ih =>
    refine ⟨?_, ?_⟩
    · intro c s hc hs l0A l1I l2A l3I S hW hE hl0A hl2A h
      have h : rX7_writePairing_b0 F k n (rX7_writePairing_go F k n k') c s l0A l1I l2A l3I S Φ := by
        rw [rX7_writePairing_go, if_pos (rfl : (0 : Nat) = 0)] at h
        exact h
      unfold rX7_writePairing_b0 at h
      refine wk_iload_n C dX7_writePairing_2 rfl rfl ?_
      refine wk_iload_n C dX7_writePairing_3 rfl rfl ?_
      refine wk_icmp_ge C (tgt := 18) dX7_writePairing_4 (by decide) (fun c1 => ?_) (fun c1 => ?_)
      · rw [if_pos c1] at h
        refine wk_iconst C (v := 1) dX7_writePairing_18 (by decide) ?_
        refine wk_iload_n C dX7_writePairing_19 rfl rfl ?_
        refine wk_ishl C dX7_writePairing_20 rfl ?_
        refine wk_iconst C (v := 1) dX7_writePairing_21 (by decide) ?_
        refine wk_isub C dX7_writePairing_22 rfl ?_
        obtain ⟨x2, ex2, h⟩ := wkLt_some h
        refine wk_topi ex2 ?_
        refine wk_istore_n C (lv' := [some (.ref l0A), some (.int l1I), some (.ref l2A), some (.int x2), none, none]) dX7_writePairing_23 rfl (by decide) rfl ?_
        refine wk_iconst C (v := 0) dX7_writePairing_24 (by decide) ?_
        refine wk_istore C (lv' := [some (.ref l0A), some (.int l1I), some (.ref l2A), some (.int x2), some (.int (0 : Int32)), none]) dX7_writePairing_25 (by decide) rfl ?_
        exact wk_forget (lv' := [some (.ref l0A), some (.int l1I), some (.ref l2A), some (.int x2), some (.int (0 : Int32)), none]) (wkLs.le ⟨rfl, rfl, rfl, rfl, rfl, trivial⟩) (ih.2 _ _ hc hs _ _ _ _ _ _ hW hE hl0A hl2A h)
      · rw [if_neg c1] at h
        refine wk_aload_n C dX7_writePairing_7 rfl rfl ?_
        refine wk_iload_n C dX7_writePairing_8 rfl rfl ?_
        obtain ⟨k6, n7, hk6, hn7, h⟩ := h
        refine wk_callV C hR (As := [.int l3I]) (cnt := 1) (tX9_add (l := l) hW hl2A h) rfl (wkGoodV (List.mem_of_getElem? (i := 1) rfl) (List.mem_of_getElem? (i := 2) rfl) (List.mem_of_getElem? (i := 3) rfl) (List.mem_of_getElem? (i := 4) rfl) hbX7_writePairing_X9_add gdX9_add) (Nat.le_trans (by decide : 2 + 1 ≤ 3) hd) (by decide) hl2A.1 (fun cy => wAt_9 cy _ hl2A.2) rfl ⟨by decide, by decide, by decide +kernel⟩ rfl rfl (Nat.le_of_ble_eq_true rfl) hk6 hn7 dX7_writePairing_9 (fun v' S4 hp => ?_)
        obtain ⟨v3, rfl, h, hWS4, hXS4⟩ := hp
        obtain ⟨x8, ex8, h⟩ := wkLt_some h
        refine wk_iinc C (lv' := [some (.ref l0A), some (.int l1I), some (.ref l2A), some (.int x8), none, none]) dX7_writePairing_12 rfl (by rw [ex8]; rfl) (by decide) rfl ?_
        refine wk_goto C (tgt := 2) dX7_writePairing_15 (by decide) ?_
        exact wk_forget (lv' := [some (.ref l0A), some (.int l1I), some (.ref l2A), some (.int x8), none, none]) (wkLs.le ⟨rfl, rfl, rfl, rfl, trivial⟩) (ih.1 _ _ hk6 hn7 _ _ _ _ _ hWS4 (wkExt.tr hE hXS4) (hXS4 _ _ hl0A) (hXS4 _ _ hl2A) h)
    · intro c s hc hs l0A l1I l2A l3I l4I S hW hE hl0A hl2A h
      have h : rX7_writePairing_b1 F k n (rX7_writePairing_go F k n k') c s l0A l1I l2A l3I l4I S Φ := by
        rw [rX7_writePairing_go, if_neg (show ¬ (1 : Nat) = 0 by decide), if_pos (rfl : (1 : Nat) = 1)] at h
        exact h
      unfold rX7_writePairing_b1 at h
      refine wk_iload C dX7_writePairing_27 rfl ?_
      refine wk_iload_n C dX7_writePairing_29 rfl rfl ?_
      refine wk_icmp_ge C (tgt := 88) dX7_writePairing_30 (by decide) (fun c9 => ?_) (fun c9 => ?_)
      · rw [if_pos c9] at h
        exact E _ _ _ _ _ hc hs dX7_writePairing_88 ⟨(), rfl, h, hW, hE⟩
      · rw [if_neg c9] at h
        refine wk_iload_n C dX7_writePairing_33 rfl rfl ?_
        refine wk_iload C dX7_writePairing_34 rfl ?_
        refine wk_callN C hR (y := yX11_has) (host := "Witnessworks") (As := [.int l3I, .int l4I]) (cnt := 2) (tX11_has (l := l) hW  h) rfl (fun w h => ⟨hbX7_writePairing_X11_has w h, gdX11_has w h⟩) (by decide +kernel) (List.mem_of_getElem? (i := 5) rfl) (List.mem_of_getElem? (i := 6) rfl) (Nat.le_trans (by decide : 0 + 1 ≤ 3) hd) (by decide) ⟨by decide, by decide, by decide +kernel⟩ rfl rfl (Nat.le_of_ble_eq_true rfl) hc hs dX7_writePairing_36 (fun v' S11 hp => ?_)
        obtain ⟨v10, rfl, h, hWS11, hXS11⟩ := hp
        refine wk_if_eq C (tgt := 82) dX7_writePairing_39 (by decide) (fun c15 => ?_) (fun c15 => ?_)
        · rw [if_pos c15] at h
          obtain ⟨x16, ex16, h⟩ := wkLt_some h
          refine wk_iinc C (lv' := [some (.ref l0A), some (.int l1I), some (.ref l2A), some (.int l3I), some (.int x16), none]) dX7_writePairing_82 rfl (by rw [ex16]; rfl) (by decide) rfl ?_
          refine wk_goto C (tgt := 27) dX7_writePairing_85 (by decide) ?_
          exact wk_forget (lv' := [some (.ref l0A), some (.int l1I), some (.ref l2A), some (.int l3I), some (.int x16), none]) (wkLs.le ⟨rfl, rfl, rfl, rfl, rfl, trivial⟩) (ih.2 _ _ hc hs _ _ _ _ _ _ hWS11 (wkExt.tr hE hXS11) (hXS11 _ _ hl0A) (hXS11 _ _ hl2A) h)
        · rw [if_neg c15] at h
          refine wk_aload_n C dX7_writePairing_42 rfl rfl ?_
          refine wk_iload C dX7_writePairing_43 rfl ?_
          refine wk_iload_n C dX7_writePairing_45 rfl rfl ?_
          refine wk_iload_n C dX7_writePairing_46 rfl rfl ?_
          refine wk_callV C hR (As := [.int l4I, .int l3I, .int l1I]) (cnt := 3) (tX7_partnerOf (l := l) hWS11 (hXS11 _ _ hl0A) h) rfl (wkGoodV (List.mem_of_getElem? (i := 7) rfl) (List.mem_of_getElem? (i := 8) rfl) (List.mem_of_getElem? (i := 9) rfl) (List.mem_of_getElem? (i := 10) rfl) hbX7_writePairing_X7_partnerOf gdX7_partnerOf) (Nat.le_trans (by decide : 1 + 1 ≤ 3) hd) (by decide) (hXS11 _ _ hl0A).1 (fun cy => wAt_7 cy _ (hXS11 _ _ hl0A).2) rfl ⟨by decide, by decide, by decide +kernel⟩ rfl rfl (Nat.le_of_ble_eq_true rfl) hc hs dX7_writePairing_47 (fun v' S18 hp => ?_)
          obtain ⟨v17, rfl, h, hWS18, hXS18⟩ := hp
          refine wk_istore C (lv' := [some (.ref l0A), some (.int l1I), some (.ref l2A), some (.int l3I), some (.int l4I), some (.int v17)]) dX7_writePairing_50 (by decide) rfl ?_
          refine wk_aload_n C dX7_writePairing_52 rfl rfl ?_
          refine wk_iload C dX7_writePairing_53 rfl ?_
          refine wk_iload C dX7_writePairing_55 rfl ?_
          refine wk_callV C hR (As := [.int l4I, .int v17]) (cnt := 2) (tX9_set (l := l) hWS18 (hXS18 _ _ (hXS11 _ _ hl2A)) h) rfl (wkGoodV (List.mem_of_getElem? (i := 11) rfl) (List.mem_of_getElem? (i := 12) rfl) (List.mem_of_getElem? (i := 13) rfl) (List.mem_of_getElem? (i := 4) rfl) hbX7_writePairing_X9_set gdX9_set) (Nat.le_trans (by decide : 0 + 1 ≤ 3) hd) (by decide) (hXS18 _ _ (hXS11 _ _ hl2A)).1 (fun cy => wAt_9 cy _ (hXS18 _ _ (hXS11 _ _ hl2A)).2) rfl ⟨by decide, by decide, by decide +kernel⟩ rfl rfl (Nat.le_of_ble_eq_true rfl) hc hs dX7_writePairing_57 (fun v' S23 hp => ?_)
          obtain ⟨v22, rfl, h, hWS23, hXS23⟩ := hp
          refine wk_aload_n C dX7_writePairing_60 rfl rfl ?_
          refine wk_iload C dX7_writePairing_61 rfl ?_
          refine wk_iload C dX7_writePairing_63 rfl ?_
          refine wk_callV C hR (As := [.int v17, .int l4I]) (cnt := 2) (tX9_set (l := l) hWS23 (hXS23 _ _ (hXS18 _ _ (hXS11 _ _ hl2A))) h) rfl (wkGoodV (List.mem_of_getElem? (i := 11) rfl) (List.mem_of_getElem? (i := 12) rfl) (List.mem_of_getElem? (i := 13) rfl) (List.mem_of_getElem? (i := 4) rfl) hbX7_writePairing_X9_set gdX9_set) (Nat.le_trans (by decide : 0 + 1 ≤ 3) hd) (by decide) (hXS23 _ _ (hXS18 _ _ (hXS11 _ _ hl2A))).1 (fun cy => wAt_9 cy _ (hXS23 _ _ (hXS18 _ _ (hXS11 _ _ hl2A))).2) rfl ⟨by decide, by decide, by decide +kernel⟩ rfl rfl (Nat.le_of_ble_eq_true rfl) hc hs dX7_writePairing_65 (fun v' S28 hp => ?_)
          obtain ⟨v27, rfl, h, hWS28, hXS28⟩ := hp
          refine wk_iload_n C dX7_writePairing_68 rfl rfl ?_
          refine wk_iconst C (v := 1) dX7_writePairing_69 (by decide) ?_
          refine wk_iload C dX7_writePairing_70 rfl ?_
          refine wk_ishl C dX7_writePairing_72 rfl ?_
          refine wk_iconst C (v := 1) dX7_writePairing_73 (by decide) ?_
          refine wk_iload C dX7_writePairing_74 rfl ?_
          refine wk_ishl C dX7_writePairing_76 rfl ?_
          refine wk_ior C dX7_writePairing_77 rfl ?_
          refine wk_iconst C (v := (-1)) dX7_writePairing_78 (by decide) ?_
          refine wk_ixor C dX7_writePairing_79 rfl ?_
          refine wk_iand C dX7_writePairing_80 rfl ?_
          obtain ⟨x32, ex32, h⟩ := wkLt_some h
          refine wk_topi ex32 ?_
          refine wk_istore_n C (lv' := [some (.ref l0A), some (.int l1I), some (.ref l2A), some (.int x32), some (.int l4I), some (.int v17)]) dX7_writePairing_81 rfl (by decide) rfl ?_
          obtain ⟨x33, ex33, h⟩ := wkLt_some h
          refine wk_iinc C (lv' := [some (.ref l0A), some (.int l1I), some (.ref l2A), some (.int x32), some (.int x33), some (.int v17)]) dX7_writePairing_82 rfl (by rw [ex33]; rfl) (by decide) rfl ?_
          refine wk_goto C (tgt := 27) dX7_writePairing_85 (by decide) ?_
          exact wk_forget (lv' := [some (.ref l0A), some (.int l1I), some (.ref l2A), some (.int x32), some (.int x33), none]) (wkLs.le ⟨rfl, rfl, rfl, rfl, rfl, trivial⟩) (ih.2 _ _ hc hs _ _ _ _ _ _ hWS28 (wkExt.tr (wkExt.tr (wkExt.tr (wkExt.tr hE hXS11) hXS18) hXS23) hXS28) (hXS28 _ _ (hXS23 _ _ (hXS18 _ _ (hXS11 _ _ hl0A)))) (hXS28 _ _ (hXS23 _ _ (hXS18 _ _ (hXS11 _ _ hl2A)))) h)
set_option maxHeartbeats 4000000 in
set_option maxRecDepth 100000 in
theorem tX7_writePairing {l : Launch} {g : wkG} {F : Nat} {k n : Nat}  {S : wPS} {l0A : Nat} {l1I : Int32} {l2A : Nat} {Φ : (Unit → wPS → Prop)} (hW : wkWF S) (hl0A : wkIs S l0A 7) (hl2A : wkIs S l2A 9) (h : rX7_writePairing F k n l0A l1I l2A S Φ) : wkMet l g yX7_writePairing wvX7_writePairing 3 k n [.ref l0A, .int l1I, .ref l2A] S (fun v' S'' => ∃ v : Unit, v' = none ∧ Φ v S'' ∧ wkWF S'' ∧ wkExt S S'') := by
  refine wkMet_of (ret := none) (by decide) rfl (Nat.le_of_ble_eq_true rfl) (fun X hg C hR E => ?_)
  subst hg
  have hE : wkExt S S := wkExt.rf
  have hd : 3 ≤ 3 := Nat.le_refl _
  show wkGo l X 6 0 0 0 S [some (.ref l0A), some (.int l1I), some (.ref l2A), none, none, none] []
  have ih := tX7_writePairing_go (F := F) C hR hd E F
  have h : rX7_writePairing_s F k n (rX7_writePairing_go F k n F) l0A l1I l2A S Φ := h
  unfold rX7_writePairing_s at h
  refine wk_iconst C (v := 0) dX7_writePairing_0 (by decide) ?_
  refine wk_istore_n C (lv' := [some (.ref l0A), some (.int l1I), some (.ref l2A), some (.int (0 : Int32)), none, none]) dX7_writePairing_1 rfl (by decide) rfl ?_
  exact wk_forget (lv' := [some (.ref l0A), some (.int l1I), some (.ref l2A), some (.int (0 : Int32)), none, none]) (wkLs.le ⟨rfl, rfl, rfl, rfl, trivial⟩) (ih.1 _ _ (Nat.zero_le _) (Nat.zero_le _) _ _ _ _ _ hW hE hl0A hl2A h)
