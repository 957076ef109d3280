def wvX10_judgeClosure : List Cond := .code yX10_judgeClosure cX10_judgeClosure 7 (some .int) :: (([.fieldLink RX10 128 "Witnessworks$Row" "count" "I", .methodLink RX10 131 yX9_at, .instanceMethod yX9_at, .selects RX9 yX9_at yX9_at, .initialized RX9, .methodLink RX10 184 yX10_findNext, .instanceMethod yX10_findNext, .selects RX10 yX10_findNext yX10_findNext, .initialized RX10, .fieldLink RX10 187 "Witnessworks$Words" "nextCount" "I", .fieldLink RX10 38 "Witnessworks$Words" "next" "[I", .methodLink RX10 134 yX9_holds, .instanceMethod yX9_holds, .selects RX9 yX9_holds yX9_holds, .methodLink RX10 173 yX10_beyondWords, .static yX10_beyondWords, .methodLink RX10 142 yX9_liesWithin, .instanceMethod yX9_liesWithin, .selects RX9 yX9_liesWithin yX9_liesWithin, .methodLink RX10 146 yX9_isRising, .instanceMethod yX9_isRising, .selects RX9 yX9_isRising yX9_isRising, .methodLink RX10 167 yX10_firstWord, .static yX10_firstWord, .methodLink RX10 170 yX10_secondWord, .static yX10_secondWord] : List Cond) ++ ((wsX90 ++ (wsX100)) ++ (wvX9_at ++ (wvX10_findNext ++ (wvX9_holds ++ (wvX10_beyondWords ++ (wvX9_liesWithin ++ (wvX9_isRising ++ (wvX10_firstWord ++ (wvX10_secondWord))))))))))
theorem huX10_judgeClosure_9 : ∀ w ∈ u_ws RX9 TX9 2, w ∈ wvX10_judgeClosure := fun w h => List.mem_cons_of_mem _ (List.mem_append_right _ (List.mem_append_left _ (List.mem_append_left _ h)))
theorem huX10_judgeClosure_10 : ∀ w ∈ u_ws RX10 TX10 12, w ∈ wvX10_judgeClosure := fun w h => List.mem_cons_of_mem _ (List.mem_append_right _ (List.mem_append_left _ (List.mem_append_right _ h)))
theorem hbX10_judgeClosure_X9_at : ∀ w ∈ wvX9_at, w ∈ wvX10_judgeClosure := fun w h => List.mem_cons_of_mem _ (List.mem_append_right _ (List.mem_append_right _ (List.mem_append_left _ h)))
theorem hbX10_judgeClosure_X10_findNext : ∀ w ∈ wvX10_findNext, w ∈ wvX10_judgeClosure := fun w h => List.mem_cons_of_mem _ (List.mem_append_right _ (List.mem_append_right _ (List.mem_append_right _ (List.mem_append_left _ h))))
theorem hbX10_judgeClosure_X9_holds : ∀ w ∈ wvX9_holds, w ∈ wvX10_judgeClosure := fun w h => List.mem_cons_of_mem _ (List.mem_append_right _ (List.mem_append_right _ (List.mem_append_right _ (List.mem_append_right _ (List.mem_append_left _ h)))))
theorem hbX10_judgeClosure_X10_beyondWords : ∀ w ∈ wvX10_beyondWords, w ∈ wvX10_judgeClosure := fun w h => List.mem_cons_of_mem _ (List.mem_append_right _ (List.mem_append_right _ (List.mem_append_right _ (List.mem_append_right _ (List.mem_append_right _ (List.mem_append_left _ h))))))
theorem hbX10_judgeClosure_X9_liesWithin : ∀ w ∈ wvX9_liesWithin, w ∈ wvX10_judgeClosure := fun w h => List.mem_cons_of_mem _ (List.mem_append_right _ (List.mem_append_right _ (List.mem_append_right _ (List.mem_append_right _ (List.mem_append_right _ (List.mem_append_right _ (List.mem_append_left _ h)))))))
theorem hbX10_judgeClosure_X9_isRising : ∀ w ∈ wvX9_isRising, w ∈ wvX10_judgeClosure := fun w h => List.mem_cons_of_mem _ (List.mem_append_right _ (List.mem_append_right _ (List.mem_append_right _ (List.mem_append_right _ (List.mem_append_right _ (List.mem_append_right _ (List.mem_append_right _ (List.mem_append_left _ h))))))))
theorem hbX10_judgeClosure_X10_firstWord : ∀ w ∈ wvX10_firstWord, w ∈ wvX10_judgeClosure := fun w h => List.mem_cons_of_mem _ (List.mem_append_right _ (List.mem_append_right _ (List.mem_append_right _ (List.mem_append_right _ (List.mem_append_right _ (List.mem_append_right _ (List.mem_append_right _ (List.mem_append_right _ (List.mem_append_left _ h)))))))))
theorem hbX10_judgeClosure_X10_secondWord : ∀ w ∈ wvX10_secondWord, w ∈ wvX10_judgeClosure := fun w h => List.mem_cons_of_mem _ (List.mem_append_right _ (List.mem_append_right _ (List.mem_append_right _ (List.mem_append_right _ (List.mem_append_right _ (List.mem_append_right _ (List.mem_append_right _ (List.mem_append_right _ (List.mem_append_right _ h)))))))))
theorem gdX10_judgeClosure : ∀ w ∈ wvX10_judgeClosure, wkGd w := wkGdC rfl (wkGdA (wkGdL (by decide +kernel)) (wkGdA (wkGdA gdX9 gdX10) (wkGdA gdX9_at (wkGdA gdX10_findNext (wkGdA gdX9_holds (wkGdA gdX10_beyondWords (wkGdA gdX9_liesWithin (wkGdA gdX9_isRising (wkGdA gdX10_firstWord gdX10_secondWord)))))))))
def rX10_judgeClosure_b0 (F : Nat) (rec : Nat → Nat → Nat → Nat → Int32 → Int32 → wPS → (Int32 → wPS → Prop) → Prop) (l0A : Nat) (l1A : Nat) (l2A : Nat) (l5I : Int32) (S : wPS) (Φ : (Int32 → wPS → Prop)) : Prop :=
  if (gRow_count S l2A) ≤ l5I then (Φ (0 : Int32) S) else (rX9_at F l2A l5I S fun v2 S3 => rX10_findNext F l0A l1A v2 S3 fun v7 S8 => rec 1 l0A l1A l2A l5I (0 : Int32) S8 Φ)
def rX10_judgeClosure_b1 (F : Nat) (rec : Nat → Nat → Nat → Nat → Int32 → Int32 → wPS → (Int32 → wPS → Prop) → Prop) (l0A : Nat) (l1A : Nat) (l2A : Nat) (l5I : Int32) (l6I : Int32) (S : wPS) (Φ : (Int32 → wPS → Prop)) : Prop :=
  if (gWords_nextCount S l0A) ≤ l6I then (wkLt (l5I + (1 : Int32)) fun x13 => rec 0 l0A l1A l2A x13 0 S Φ) else (¬ (l6I < 0 ∨ S.len (wkAd (gWords_next S l0A)) ≤ (l6I).toNatClampNeg) ∧ rX9_holds F l2A (0 : Int32) (S.rI (wkAd (gWords_next S l0A)) (l6I).toNatClampNeg) S fun v15 S16 => if v15 = 0 then (Φ (3 : Int32) S16) else (wkLt (l6I + (1 : Int32)) fun x21 => rec 1 l0A l1A l2A l5I x21 S16 Φ))
def rX10_judgeClosure_go (F : Nat) : Nat → Nat → Nat → Nat → Nat → Int32 → Int32 → wPS → (Int32 → wPS → Prop) → Prop
  | 0, _, _, _, _, _, _, _, _ => False
  | k' + 1, lab, l0A, l1A, l2A, l5I, l6I, S, Φ => if lab = 0 then rX10_judgeClosure_b0 F (rX10_judgeClosure_go F k') l0A l1A l2A l5I S Φ else if lab = 1 then rX10_judgeClosure_b1 F (rX10_judgeClosure_go F k') l0A l1A l2A l5I l6I S Φ else False
def rX10_judgeClosure_s (F : Nat) (rec : Nat → Nat → Nat → Nat → Int32 → Int32 → wPS → (Int32 → wPS → Prop) → Prop) (l0A : Nat) (l1A : Nat) (l2A : Nat) (S : wPS) (Φ : (Int32 → wPS → Prop)) : Prop :=
  rX10_beyondWords F l1A S fun v22 S23 => rX9_liesWithin F l2A (0 : Int32) (1 : Int32) (v22 - (1 : Int32)) S23 fun v27 S28 => if v27 = 0 then (Φ (1 : Int32) S28) else (rX9_isRising F l2A (0 : Int32) S28 fun v33 S34 => if v33 = 0 then (Φ (1 : Int32) S34) else (rX10_firstWord F l1A S34 fun v39 S40 => if v22 ≤ v39 then (rX10_secondWord F l1A S40 fun v45 S46 => rX9_holds F l2A (0 : Int32) v45 S46 fun v50 S51 => if v50 = 0 then (rec 0 l0A l1A l2A (0 : Int32) 0 S51 Φ) else (Φ (2 : Int32) S51)) else (rX9_holds F l2A (0 : Int32) v39 S40 fun v56 S57 => if v56 = 0 then (Φ (2 : Int32) S57) else (rX10_secondWord F l1A S57 fun v62 S63 => rX9_holds F l2A (0 : Int32) v62 S63 fun v67 S68 => if v67 = 0 then (rec 0 l0A l1A l2A (0 : Int32) 0 S68 Φ) else (Φ (2 : Int32) S68)))))
def rX10_judgeClosure (F : Nat) (l0A : Nat) (l1A : Nat) (l2A : Nat) (S : wPS) (Φ : (Int32 → wPS → Prop)) : Prop := rX10_judgeClosure_s F (rX10_judgeClosure_go F F) l0A l1A l2A S Φ
set_option maxHeartbeats 4000000 in
set_option maxRecDepth 100000 in
theorem tX10_judgeClosure_go {l : Launch} {X : wkX} {d F : Nat} {S0 : wPS} {Φ : (Int32 → wPS → Prop)} (C : wkC X cX10_judgeClosure RX10 7 wvX10_judgeClosure) (hR : wkRm X d 0 0) (hd : 3 ≤ d) (E : wkEnd l X cX10_judgeClosure 7 (some .int) 0 0 (fun v' S'' => ∃ v : Int32, v' = some (.int v) ∧ Φ v S'' ∧ wkWF S'' ∧ wkExt S0 S'')) : ∀ k' : Nat, (∀ (l0A : Nat) (l1A : Nat) (l2A : Nat) (l5I : Int32) (S : wPS), wkWF S → wkExt S0 S → wkIs S l0A 10 → wkIs S l1A 3 → wkIs S l2A 9 → rX10_judgeClosure_go F k' 0 l0A l1A l2A l5I 0 S Φ → wkGo l X 7 0 0 66 S [some (.ref l0A), some (.ref l1A), some (.ref l2A), none, none, some (.int l5I), none] []) ∧ (∀ (l0A : Nat) (l1A : Nat) (l2A : Nat) (l5I : Int32) (l6I : Int32) (S : wPS), wkWF S → wkExt S0 S → wkIs S l0A 10 → wkIs S l1A 3 → wkIs S l2A 9 → rX10_judgeClosure_go F k' 1 l0A l1A l2A l5I l6I S Φ → wkGo l X 7 0 0 89 S [some (.ref l0A), some (.ref l1A), some (.ref l2A), none, none, some (.int l5I), some (.int l6I)] []) := by
  intro k'
  induction k' with
  | zero => exact ⟨fun l0A l1A l2A l5I S hW hE hl0A hl1A hl2A h => h.elim, fun l0A l1A l2A l5I l6I S hW hE hl0A hl1A hl2A h => h.elim⟩
  | succ k' ih =>
    refine ⟨?_, ?_⟩
    · intro l0A l1A l2A l5I S hW hE hl0A hl1A hl2A h
      have h : rX10_judgeClosure_b0 F (rX10_judgeClosure_go F k') l0A l1A l2A l5I S Φ := by
        rw [rX10_judgeClosure_go, if_pos (rfl : (0 : Nat) = 0)] at h
        exact h
      unfold rX10_judgeClosure_b0 at h
      refine wk_iload C dX10_judgeClosure_66 rfl ?_
      refine wk_aload_n C dX10_judgeClosure_68 rfl rfl ?_
      refine wk_get C (v := .int (gRow_count S l2A)) huX10_judgeClosure_9 hl2A.1 (fun cy => wAt_9 cy _ hl2A.2) rfl 1 (by decide) (List.mem_of_getElem? (i := 1) rfl) rfl rfl dX10_judgeClosure_69 ?_
      refine wk_icmp_ge C (tgt := 127) dX10_judgeClosure_72 (by decide) (fun c1 => ?_) (fun c1 => ?_)
      · rw [if_pos c1] at h
        refine wk_iconst C (v := 0) dX10_judgeClosure_127 (by decide) ?_
        exact E _ _ _ _ _ _ (Nat.le_refl 0) (Nat.le_refl 0) dX10_judgeClosure_128 ⟨(0 : Int32), rfl, h, hW, hE⟩
      · rw [if_neg c1] at h
        refine wk_aload_n C dX10_judgeClosure_75 rfl rfl ?_
        refine wk_aload_n C dX10_judgeClosure_76 rfl rfl ?_
        refine wk_aload_n C dX10_judgeClosure_77 rfl rfl ?_
        refine wk_iload C dX10_judgeClosure_78 rfl ?_
        refine wk_callV C hR (As := [.int l5I]) (cnt := 1) (tX9_at (l := l) hW hl2A h) rfl (wkGoodV (List.mem_of_getElem? (i := 2) rfl) (List.mem_of_getElem? (i := 3) rfl) (List.mem_of_getElem? (i := 4) rfl) (List.mem_of_getElem? (i := 5) rfl) hbX10_judgeClosure_X9_at gdX9_at) (Nat.le_trans (by decide : 0 + 1 ≤ 3) hd) (by decide) hl2A.1 (fun cy => wAt_9 cy _ hl2A.2) rfl ⟨by decide, by decide, by decide +kernel⟩ rfl rfl (Nat.le_of_ble_eq_true rfl) (Nat.le_refl 0) (Nat.le_refl 0) dX10_judgeClosure_80 (fun v' S3 hp => ?_)
        obtain ⟨v2, rfl, h, hWS3, hXS3⟩ := hp
        refine wk_callV C hR (As := [.ref l1A, .int v2]) (cnt := 2) (tX10_findNext (l := l) hWS3 (hXS3 _ _ hl0A) (hXS3 _ _ hl1A) h) rfl (wkGoodV (List.mem_of_getElem? (i := 6) rfl) (List.mem_of_getElem? (i := 7) rfl) (List.mem_of_getElem? (i := 8) rfl) (List.mem_of_getElem? (i := 9) rfl) hbX10_judgeClosure_X10_findNext gdX10_findNext) (Nat.le_trans (by decide : 2 + 1 ≤ 3) hd) (by decide) (hXS3 _ _ hl0A).1 (fun cy => wAt_10 cy _ (hXS3 _ _ hl0A).2) rfl ⟨by decide, by decide, by decide +kernel⟩ rfl rfl (Nat.le_of_ble_eq_true rfl) (Nat.le_refl 0) (Nat.le_refl 0) dX10_judgeClosure_83 (fun v' S8 hp => ?_)
        obtain ⟨v7, rfl, h, hWS8, hXS8⟩ := hp
        refine wk_iconst C (v := 0) dX10_judgeClosure_86 (by decide) ?_
        refine wk_istore C (lv' := [some (.ref l0A), some (.ref l1A), some (.ref l2A), none, none, some (.int l5I), some (.int (0 : Int32))]) dX10_judgeClosure_87 (by decide) rfl ?_
        exact wk_forget (lv' := [some (.ref l0A), some (.ref l1A), some (.ref l2A), none, none, some (.int l5I), some (.int (0 : Int32))]) (wkLs.le ⟨rfl, rfl, rfl, rfl, rfl, trivial⟩) (ih.2 _ _ _ _ _ _ hWS8 (wkExt.tr (wkExt.tr hE hXS3) hXS8) (hXS8 _ _ (hXS3 _ _ hl0A)) (hXS8 _ _ (hXS3 _ _ hl1A)) (hXS8 _ _ (hXS3 _ _ hl2A)) h)
    · intro l0A l1A l2A l5I l6I S hW hE hl0A hl1A hl2A h
      have h : rX10_judgeClosure_b1 F (rX10_judgeClosure_go F k') l0A l1A l2A l5I l6I S Φ := by
        rw [rX10_judgeClosure_go, if_neg (show ¬ (1 : Nat) = 0 by decide), if_pos (rfl : (1 : Nat) = 1)] at h
        exact h
      unfold rX10_judgeClosure_b1 at h
      refine wk_iload C dX10_judgeClosure_89 rfl ?_
      refine wk_aload_n C dX10_judgeClosure_91 rfl rfl ?_
      refine wk_get C (v := .int (gWords_nextCount S l0A)) huX10_judgeClosure_10 hl0A.1 (fun cy => wAt_10 cy _ hl0A.2) rfl 9 (by decide) (List.mem_of_getElem? (i := 10) rfl) rfl rfl dX10_judgeClosure_92 ?_
      refine wk_icmp_ge C (tgt := 121) dX10_judgeClosure_95 (by decide) (fun c12 => ?_) (fun c12 => ?_)
      · rw [if_pos c12] at h
        obtain ⟨x13, ex13, h⟩ := wkLt_some h
        refine wk_iinc C (lv' := [some (.ref l0A), some (.ref l1A), some (.ref l2A), none, none, some (.int x13), some (.int l6I)]) dX10_judgeClosure_121 rfl (by rw [ex13]; rfl) (by decide) rfl ?_
        refine wk_goto C (tgt := 66) dX10_judgeClosure_124 (by decide) ?_
        exact wk_forget (lv' := [some (.ref l0A), some (.ref l1A), some (.ref l2A), none, none, some (.int x13), none]) (wkLs.le ⟨rfl, rfl, rfl, rfl, trivial⟩) (ih.1 _ _ _ _ _ hW hE hl0A hl1A hl2A h)
      · rw [if_neg c12] at h
        refine wk_aload_n C dX10_judgeClosure_98 rfl rfl ?_
        refine wk_iconst C (v := 0) dX10_judgeClosure_99 (by decide) ?_
        refine wk_aload_n C dX10_judgeClosure_100 rfl rfl ?_
        refine wk_get C huX10_judgeClosure_10 hl0A.1 (fun cy => wAt_10 cy _ hl0A.2) rfl 8 (by decide) (List.mem_of_getElem? (i := 11) rfl) rfl (congrArg some (congrArg va_rf (wf_Words_next hW hl0A).1)) dX10_judgeClosure_101 ?_
        refine wk_iload C dX10_judgeClosure_104 rfl ?_
        obtain ⟨i14, h⟩ := h
        refine wk_iald C (wf_Words_next hW hl0A).2.1 (wf_Words_next hW hl0A).2.2 i14 rfl dX10_judgeClosure_106 ?_
        refine wk_callV C hR (As := [.int (0 : Int32), .int (S.rI (wkAd (gWords_next S l0A)) (l6I).toNatClampNeg)]) (cnt := 2) (tX9_holds (l := l) hW hl2A h) rfl (wkGoodV (List.mem_of_getElem? (i := 12) rfl) (List.mem_of_getElem? (i := 13) rfl) (List.mem_of_getElem? (i := 14) rfl) (List.mem_of_getElem? (i := 5) rfl) hbX10_judgeClosure_X9_holds gdX9_holds) (Nat.le_trans (by decide : 0 + 1 ≤ 3) hd) (by decide) hl2A.1 (fun cy => wAt_9 cy _ hl2A.2) rfl ⟨by decide, by decide, by decide +kernel⟩ rfl rfl (Nat.le_of_ble_eq_true rfl) (Nat.le_refl 0) (Nat.le_refl 0) dX10_judgeClosure_107 (fun v' S16 hp => ?_)
        obtain ⟨v15, rfl, h, hWS16, hXS16⟩ := hp
        refine wk_if_ne C (tgt := 115) dX10_judgeClosure_110 (by decide) (fun c20 => ?_) (fun c20 => ?_)
        · rw [if_neg c20] at h
          obtain ⟨x21, ex21, h⟩ := wkLt_some h
          refine wk_iinc C (lv' := [some (.ref l0A), some (.ref l1A), some (.ref l2A), none, none, some (.int l5I), some (.int x21)]) dX10_judgeClosure_115 rfl (by rw [ex21]; rfl) (by decide) rfl ?_
          refine wk_goto C (tgt := 89) dX10_judgeClosure_118 (by decide) ?_
          exact wk_forget (lv' := [some (.ref l0A), some (.ref l1A), some (.ref l2A), none, none, some (.int l5I), some (.int x21)]) (wkLs.le ⟨rfl, rfl, rfl, rfl, rfl, trivial⟩) (ih.2 _ _ _ _ _ _ hWS16 (wkExt.tr hE hXS16) (hXS16 _ _ hl0A) (hXS16 _ _ hl1A) (hXS16 _ _ hl2A) h)
        · rw [if_pos c20] at h
          refine wk_iconst C (v := 3) dX10_judgeClosure_113 (by decide) ?_
          exact E _ _ _ _ _ _ (Nat.le_refl 0) (Nat.le_refl 0) dX10_judgeClosure_114 ⟨(3 : Int32), rfl, h, hWS16, (wkExt.tr hE hXS16)⟩
set_option maxHeartbeats 4000000 in
set_option maxRecDepth 100000 in
theorem tX10_judgeClosure {l : Launch} {g : wkG} {F : Nat}  {S : wPS} {l0A : Nat} {l1A : Nat} {l2A : Nat} {Φ : (Int32 → wPS → Prop)} (hW : wkWF S) (hl0A : wkIs S l0A 10) (hl1A : wkIs S l1A 3) (hl2A : wkIs S l2A 9) (h : rX10_judgeClosure F l0A l1A l2A S Φ) : wkMet l g yX10_judgeClosure wvX10_judgeClosure 3 0 0 [.ref l0A, .ref l1A, .ref l2A] S (fun v' S'' => ∃ v : Int32, v' = some (.int v) ∧ Φ v S'' ∧ wkWF S'' ∧ wkExt S S'') := by
  refine wkMet_of (ret := (some .int)) (by decide) rfl (Nat.le_of_ble_eq_true rfl) (fun X hg C hR E => ?_)
  subst hg
  have hE : wkExt S S := wkExt.rf
  have hd : 3 ≤ 3 := Nat.le_refl _
  show wkGo l X 7 0 0 0 S [some (.ref l0A), some (.ref l1A), some (.ref l2A), none, none, none, none] []
  have ih := tX10_judgeClosure_go (F := F) C hR hd E F
  have h : rX10_judgeClosure_s F (rX10_judgeClosure_go F F) l0A l1A l2A S Φ := h
  unfold rX10_judgeClosure_s at h
  refine wk_aload_n C dX10_judgeClosure_0 rfl rfl ?_
  refine wk_callW C hR (As := [.ref l1A]) (cnt := 1) (tX10_beyondWords (l := l) hW hl1A h) rfl (wkGoodW (List.mem_of_getElem? (i := 15) rfl) (List.mem_of_getElem? (i := 16) rfl) (List.mem_of_getElem? (i := 9) rfl) hbX10_judgeClosure_X10_beyondWords gdX10_beyondWords) (Nat.le_trans (by decide : 0 + 1 ≤ 3) hd) (by decide) ⟨by decide, by decide, by decide +kernel⟩ rfl rfl (Nat.le_of_ble_eq_true rfl) (Nat.le_refl 0) (Nat.le_refl 0) dX10_judgeClosure_1 (fun v' S23 hp => ?_)
  obtain ⟨v22, rfl, h, hWS23, hXS23⟩ := hp
  refine wk_istore_n C (lv' := [some (.ref l0A), some (.ref l1A), some (.ref l2A), some (.int v22), none, none, none]) dX10_judgeClosure_4 rfl (by decide) rfl ?_
  refine wk_aload_n C dX10_judgeClosure_5 rfl rfl ?_
  refine wk_iconst C (v := 0) dX10_judgeClosure_6 (by decide) ?_
  refine wk_iconst C (v := 1) dX10_judgeClosure_7 (by decide) ?_
  refine wk_iload_n C dX10_judgeClosure_8 rfl rfl ?_
  refine wk_iconst C (v := 1) dX10_judgeClosure_9 (by decide) ?_
  refine wk_isub C dX10_judgeClosure_10 rfl ?_
  refine wk_callV C hR (As := [.int (0 : Int32), .int (1 : Int32), .int (v22 - (1 : Int32))]) (cnt := 3) (tX9_liesWithin (l := l) hWS23 (hXS23 _ _ hl2A) h) rfl (wkGoodV (List.mem_of_getElem? (i := 17) rfl) (List.mem_of_getElem? (i := 18) rfl) (List.mem_of_getElem? (i := 19) rfl) (List.mem_of_getElem? (i := 5) rfl) hbX10_judgeClosure_X9_liesWithin gdX9_liesWithin) (Nat.le_trans (by decide : 0 + 1 ≤ 3) hd) (by decide) (hXS23 _ _ hl2A).1 (fun cy => wAt_9 cy _ (hXS23 _ _ hl2A).2) rfl ⟨by decide, by decide, by decide +kernel⟩ rfl rfl (Nat.le_of_ble_eq_true rfl) (Nat.le_refl 0) (Nat.le_refl 0) dX10_judgeClosure_11 (fun v' S28 hp => ?_)
  obtain ⟨v27, rfl, h, hWS28, hXS28⟩ := hp
  refine wk_if_eq C (tgt := 25) dX10_judgeClosure_14 (by decide) (fun c32 => ?_) (fun c32 => ?_)
  · rw [if_pos c32] at h
    refine wk_iconst C (v := 1) dX10_judgeClosure_25 (by decide) ?_
    exact E _ _ _ _ _ _ (Nat.le_refl 0) (Nat.le_refl 0) dX10_judgeClosure_26 ⟨(1 : Int32), rfl, h, hWS28, (wkExt.tr (wkExt.tr hE hXS23) hXS28)⟩
  · rw [if_neg c32] at h
    refine wk_aload_n C dX10_judgeClosure_17 rfl rfl ?_
    refine wk_iconst C (v := 0) dX10_judgeClosure_18 (by decide) ?_
    refine wk_callV C hR (As := [.int (0 : Int32)]) (cnt := 1) (tX9_isRising (l := l) hWS28 (hXS28 _ _ (hXS23 _ _ hl2A)) h) rfl (wkGoodV (List.mem_of_getElem? (i := 20) rfl) (List.mem_of_getElem? (i := 21) rfl) (List.mem_of_getElem? (i := 22) rfl) (List.mem_of_getElem? (i := 5) rfl) hbX10_judgeClosure_X9_isRising gdX9_isRising) (Nat.le_trans (by decide : 0 + 1 ≤ 3) hd) (by decide) (hXS28 _ _ (hXS23 _ _ hl2A)).1 (fun cy => wAt_9 cy _ (hXS28 _ _ (hXS23 _ _ hl2A)).2) rfl ⟨by decide, by decide, by decide +kernel⟩ rfl rfl (Nat.le_of_ble_eq_true rfl) (Nat.le_refl 0) (Nat.le_refl 0) dX10_judgeClosure_19 (fun v' S34 hp => ?_)
    obtain ⟨v33, rfl, h, hWS34, hXS34⟩ := hp
    refine wk_if_ne C (tgt := 27) dX10_judgeClosure_22 (by decide) (fun c38 => ?_) (fun c38 => ?_)
    · rw [if_neg c38] at h
      refine wk_aload_n C dX10_judgeClosure_27 rfl rfl ?_
      refine wk_callW C hR (As := [.ref l1A]) (cnt := 1) (tX10_firstWord (l := l) hWS34 (hXS34 _ _ (hXS28 _ _ (hXS23 _ _ hl1A))) h) rfl (wkGoodW (List.mem_of_getElem? (i := 23) rfl) (List.mem_of_getElem? (i := 24) rfl) (List.mem_of_getElem? (i := 9) rfl) hbX10_judgeClosure_X10_firstWord gdX10_firstWord) (Nat.le_trans (by decide : 1 + 1 ≤ 3) hd) (by decide) ⟨by decide, by decide, by decide +kernel⟩ rfl rfl (Nat.le_of_ble_eq_true rfl) (Nat.le_refl 0) (Nat.le_refl 0) dX10_judgeClosure_28 (fun v' S40 hp => ?_)
      obtain ⟨v39, rfl, h, hWS40, hXS40⟩ := hp
      refine wk_istore C (lv' := [some (.ref l0A), some (.ref l1A), some (.ref l2A), some (.int v22), some (.int v39), none, none]) dX10_judgeClosure_31 (by decide) rfl ?_
      refine wk_iload C dX10_judgeClosure_33 rfl ?_
      refine wk_iload_n C dX10_judgeClosure_35 rfl rfl ?_
      refine wk_icmp_ge C (tgt := 49) dX10_judgeClosure_36 (by decide) (fun c44 => ?_) (fun c44 => ?_)
      · rw [if_pos c44] at h
        refine wk_aload_n C dX10_judgeClosure_49 rfl rfl ?_
        refine wk_iconst C (v := 0) dX10_judgeClosure_50 (by decide) ?_
        refine wk_aload_n C dX10_judgeClosure_51 rfl rfl ?_
        refine wk_callW C hR (As := [.ref l1A]) (cnt := 1) (tX10_secondWord (l := l) hWS40 (hXS40 _ _ (hXS34 _ _ (hXS28 _ _ (hXS23 _ _ hl1A)))) h) rfl (wkGoodW (List.mem_of_getElem? (i := 25) rfl) (List.mem_of_getElem? (i := 26) rfl) (List.mem_of_getElem? (i := 9) rfl) hbX10_judgeClosure_X10_secondWord gdX10_secondWord) (Nat.le_trans (by decide : 1 + 1 ≤ 3) hd) (by decide) ⟨by decide, by decide, by decide +kernel⟩ rfl rfl (Nat.le_of_ble_eq_true rfl) (Nat.le_refl 0) (Nat.le_refl 0) dX10_judgeClosure_52 (fun v' S46 hp => ?_)
        obtain ⟨v45, rfl, h, hWS46, hXS46⟩ := hp
        refine wk_callV C hR (As := [.int (0 : Int32), .int v45]) (cnt := 2) (tX9_holds (l := l) hWS46 (hXS46 _ _ (hXS40 _ _ (hXS34 _ _ (hXS28 _ _ (hXS23 _ _ hl2A))))) h) rfl (wkGoodV (List.mem_of_getElem? (i := 12) rfl) (List.mem_of_getElem? (i := 13) rfl) (List.mem_of_getElem? (i := 14) rfl) (List.mem_of_getElem? (i := 5) rfl) hbX10_judgeClosure_X9_holds gdX9_holds) (Nat.le_trans (by decide : 0 + 1 ≤ 3) hd) (by decide) (hXS46 _ _ (hXS40 _ _ (hXS34 _ _ (hXS28 _ _ (hXS23 _ _ hl2A))))).1 (fun cy => wAt_9 cy _ (hXS46 _ _ (hXS40 _ _ (hXS34 _ _ (hXS28 _ _ (hXS23 _ _ hl2A))))).2) rfl ⟨by decide, by decide, by decide +kernel⟩ rfl rfl (Nat.le_of_ble_eq_true rfl) (Nat.le_refl 0) (Nat.le_refl 0) dX10_judgeClosure_55 (fun v' S51 hp => ?_)
        obtain ⟨v50, rfl, h, hWS51, hXS51⟩ := hp
        refine wk_if_eq C (tgt := 63) dX10_judgeClosure_58 (by decide) (fun c55 => ?_) (fun c55 => ?_)
        · rw [if_pos c55] at h
          refine wk_iconst C (v := 0) dX10_judgeClosure_63 (by decide) ?_
          refine wk_istore C (lv' := [some (.ref l0A), some (.ref l1A), some (.ref l2A), some (.int v22), some (.int v39), some (.int (0 : Int32)), none]) dX10_judgeClosure_64 (by decide) rfl ?_
          exact wk_forget (lv' := [some (.ref l0A), some (.ref l1A), some (.ref l2A), none, none, some (.int (0 : Int32)), none]) (wkLs.le ⟨rfl, rfl, rfl, rfl, trivial⟩) (ih.1 _ _ _ _ _ hWS51 (wkExt.tr (wkExt.tr (wkExt.tr (wkExt.tr (wkExt.tr (wkExt.tr hE hXS23) hXS28) hXS34) hXS40) hXS46) hXS51) (hXS51 _ _ (hXS46 _ _ (hXS40 _ _ (hXS34 _ _ (hXS28 _ _ (hXS23 _ _ hl0A)))))) (hXS51 _ _ (hXS46 _ _ (hXS40 _ _ (hXS34 _ _ (hXS28 _ _ (hXS23 _ _ hl1A)))))) (hXS51 _ _ (hXS46 _ _ (hXS40 _ _ (hXS34 _ _ (hXS28 _ _ (hXS23 _ _ hl2A)))))) h)
        · rw [if_neg c55] at h
          refine wk_iconst C (v := 2) dX10_judgeClosure_61 (by decide) ?_
          exact E _ _ _ _ _ _ (Nat.le_refl 0) (Nat.le_refl 0) dX10_judgeClosure_62 ⟨(2 : Int32), rfl, h, hWS51, (wkExt.tr (wkExt.tr (wkExt.tr (wkExt.tr (wkExt.tr (wkExt.tr hE hXS23) hXS28) hXS34) hXS40) hXS46) hXS51)⟩
      · rw [if_neg c44] at h
        refine wk_aload_n C dX10_judgeClosure_39 rfl rfl ?_
        refine wk_iconst C (v := 0) dX10_judgeClosure_40 (by decide) ?_
        refine wk_iload C dX10_judgeClosure_41 rfl ?_
        refine wk_callV C hR (As := [.int (0 : Int32), .int v39]) (cnt := 2) (tX9_holds (l := l) hWS40 (hXS40 _ _ (hXS34 _ _ (hXS28 _ _ (hXS23 _ _ hl2A)))) h) rfl (wkGoodV (List.mem_of_getElem? (i := 12) rfl) (List.mem_of_getElem? (i := 13) rfl) (List.mem_of_getElem? (i := 14) rfl) (List.mem_of_getElem? (i := 5) rfl) hbX10_judgeClosure_X9_holds gdX9_holds) (Nat.le_trans (by decide : 0 + 1 ≤ 3) hd) (by decide) (hXS40 _ _ (hXS34 _ _ (hXS28 _ _ (hXS23 _ _ hl2A)))).1 (fun cy => wAt_9 cy _ (hXS40 _ _ (hXS34 _ _ (hXS28 _ _ (hXS23 _ _ hl2A)))).2) rfl ⟨by decide, by decide, by decide +kernel⟩ rfl rfl (Nat.le_of_ble_eq_true rfl) (Nat.le_refl 0) (Nat.le_refl 0) dX10_judgeClosure_43 (fun v' S57 hp => ?_)
        obtain ⟨v56, rfl, h, hWS57, hXS57⟩ := hp
        refine wk_if_eq C (tgt := 61) dX10_judgeClosure_46 (by decide) (fun c61 => ?_) (fun c61 => ?_)
        · rw [if_pos c61] at h
          refine wk_iconst C (v := 2) dX10_judgeClosure_61 (by decide) ?_
          exact E _ _ _ _ _ _ (Nat.le_refl 0) (Nat.le_refl 0) dX10_judgeClosure_62 ⟨(2 : Int32), rfl, h, hWS57, (wkExt.tr (wkExt.tr (wkExt.tr (wkExt.tr (wkExt.tr hE hXS23) hXS28) hXS34) hXS40) hXS57)⟩
        · rw [if_neg c61] at h
          refine wk_aload_n C dX10_judgeClosure_49 rfl rfl ?_
          refine wk_iconst C (v := 0) dX10_judgeClosure_50 (by decide) ?_
          refine wk_aload_n C dX10_judgeClosure_51 rfl rfl ?_
          refine wk_callW C hR (As := [.ref l1A]) (cnt := 1) (tX10_secondWord (l := l) hWS57 (hXS57 _ _ (hXS40 _ _ (hXS34 _ _ (hXS28 _ _ (hXS23 _ _ hl1A))))) h) rfl (wkGoodW (List.mem_of_getElem? (i := 25) rfl) (List.mem_of_getElem? (i := 26) rfl) (List.mem_of_getElem? (i := 9) rfl) hbX10_judgeClosure_X10_secondWord gdX10_secondWord) (Nat.le_trans (by decide : 1 + 1 ≤ 3) hd) (by decide) ⟨by decide, by decide, by decide +kernel⟩ rfl rfl (Nat.le_of_ble_eq_true rfl) (Nat.le_refl 0) (Nat.le_refl 0) dX10_judgeClosure_52 (fun v' S63 hp => ?_)
          obtain ⟨v62, rfl, h, hWS63, hXS63⟩ := hp
          refine wk_callV C hR (As := [.int (0 : Int32), .int v62]) (cnt := 2) (tX9_holds (l := l) hWS63 (hXS63 _ _ (hXS57 _ _ (hXS40 _ _ (hXS34 _ _ (hXS28 _ _ (hXS23 _ _ hl2A)))))) h) rfl (wkGoodV (List.mem_of_getElem? (i := 12) rfl) (List.mem_of_getElem? (i := 13) rfl) (List.mem_of_getElem? (i := 14) rfl) (List.mem_of_getElem? (i := 5) rfl) hbX10_judgeClosure_X9_holds gdX9_holds) (Nat.le_trans (by decide : 0 + 1 ≤ 3) hd) (by decide) (hXS63 _ _ (hXS57 _ _ (hXS40 _ _ (hXS34 _ _ (hXS28 _ _ (hXS23 _ _ hl2A)))))).1 (fun cy => wAt_9 cy _ (hXS63 _ _ (hXS57 _ _ (hXS40 _ _ (hXS34 _ _ (hXS28 _ _ (hXS23 _ _ hl2A)))))).2) rfl ⟨by decide, by decide, by decide +kernel⟩ rfl rfl (Nat.le_of_ble_eq_true rfl) (Nat.le_refl 0) (Nat.le_refl 0) dX10_judgeClosure_55 (fun v' S68 hp => ?_)
          obtain ⟨v67, rfl, h, hWS68, hXS68⟩ := hp
          refine wk_if_eq C (tgt := 63) dX10_judgeClosure_58 (by decide) (fun c72 => ?_) (fun c72 => ?_)
          · rw [if_pos c72] at h
            refine wk_iconst C (v := 0) dX10_judgeClosure_63 (by decide) ?_
            refine wk_istore C (lv' := [some (.ref l0A), some (.ref l1A), some (.ref l2A), some (.int v22), some (.int v39), some (.int (0 : Int32)), none]) dX10_judgeClosure_64 (by decide) rfl ?_
            exact wk_forget (lv' := [some (.ref l0A), some (.ref l1A), some (.ref l2A), none, none, some (.int (0 : Int32)), none]) (wkLs.le ⟨rfl, rfl, rfl, rfl, trivial⟩) (ih.1 _ _ _ _ _ hWS68 (wkExt.tr (wkExt.tr (wkExt.tr (wkExt.tr (wkExt.tr (wkExt.tr (wkExt.tr hE hXS23) hXS28) hXS34) hXS40) hXS57) hXS63) hXS68) (hXS68 _ _ (hXS63 _ _ (hXS57 _ _ (hXS40 _ _ (hXS34 _ _ (hXS28 _ _ (hXS23 _ _ hl0A))))))) (hXS68 _ _ (hXS63 _ _ (hXS57 _ _ (hXS40 _ _ (hXS34 _ _ (hXS28 _ _ (hXS23 _ _ hl1A))))))) (hXS68 _ _ (hXS63 _ _ (hXS57 _ _ (hXS40 _ _ (hXS34 _ _ (hXS28 _ _ (hXS23 _ _ hl2A))))))) h)
          · rw [if_neg c72] at h
            refine wk_iconst C (v := 2) dX10_judgeClosure_61 (by decide) ?_
            exact E _ _ _ _ _ _ (Nat.le_refl 0) (Nat.le_refl 0) dX10_judgeClosure_62 ⟨(2 : Int32), rfl, h, hWS68, (wkExt.tr (wkExt.tr (wkExt.tr (wkExt.tr (wkExt.tr (wkExt.tr (wkExt.tr hE hXS23) hXS28) hXS34) hXS40) hXS57) hXS63) hXS68)⟩
    · rw [if_pos c38] at h
      refine wk_iconst C (v := 1) dX10_judgeClosure_25 (by decide) ?_
      exact E _ _ _ _ _ _ (Nat.le_refl 0) (Nat.le_refl 0) dX10_judgeClosure_26 ⟨(1 : Int32), rfl, h, hWS34, (wkExt.tr (wkExt.tr (wkExt.tr hE hXS23) hXS28) hXS34)⟩
def wvX11_undo : List Cond := .code yX11_undo cX11_undo 4 (some .char) :: (([.fieldLink RX11 194 "Witnessworks" "changeCount" "I", .fieldLink RX11 202 "Witnessworks" "firstChange" "I", .fieldLink RX11 37 "Witnessworks" "changeLetters" "[C", .fieldLink RX11 41 "Witnessworks" "changedEntries" "[I", .methodLink RX11 205 yX11_forgetEntry, .instanceMethod yX11_forgetEntry, .selects RX11 yX11_forgetEntry yX11_forgetEntry, .initialized RX11, .fieldLink RX11 18 "Witnessworks" "book" "[LWitnessworks$Entry;", .fieldLink RX11 34 "Witnessworks" "before" "[LWitnessworks$Entry;", .methodLink RX11 187 yX3_copyQuestion, .instanceMethod yX3_copyQuestion, .selects RX3 yX3_copyQuestion yX3_copyQuestion, .initialized RX3, .fieldLink RX11 128 "Witnessworks$Entry" "isSolved" "Z"] : List Cond) ++ ((wsX110 ++ (wsX30)) ++ (wvX11_forgetEntry ++ (wvX3_copyQuestion))))
theorem huX11_undo_11 : ∀ w ∈ u_ws RX11 TX11 19, w ∈ wvX11_undo := fun w h => List.mem_cons_of_mem _ (List.mem_append_right _ (List.mem_append_left _ (List.mem_append_left _ h)))
theorem huX11_undo_3 : ∀ w ∈ u_ws RX3 TX3 17, w ∈ wvX11_undo := fun w h => List.mem_cons_of_mem _ (List.mem_append_right _ (List.mem_append_left _ (List.mem_append_right _ h)))
theorem hbX11_undo_X11_forgetEntry : ∀ w ∈ wvX11_forgetEntry, w ∈ wvX11_undo := fun w h => List.mem_cons_of_mem _ (List.mem_append_right _ (List.mem_append_right _ (List.mem_append_left _ h)))
theorem hbX11_undo_X3_copyQuestion : ∀ w ∈ wvX3_copyQuestion, w ∈ wvX11_undo := fun w h => List.mem_cons_of_mem _ (List.mem_append_right _ (List.mem_append_right _ (List.mem_append_right _ h)))
theorem gdX11_undo : ∀ w ∈ wvX11_undo, wkGd w := wkGdC rfl (wkGdA (wkGdL (by decide +kernel)) (wkGdA (wkGdA gdX11 gdX3) (wkGdA gdX11_forgetEntry gdX3_copyQuestion)))
def rX11_undo (F : Nat) (k n : Nat) (l0A : Nat) (S : wPS) (Φ : (Int32 → wPS → Prop)) (Ψ : String → wPS → Prop) : Prop :=
  if (gWitnessworks_changeCount S l0A) = 0 then (0 + 1 ≤ k ∧ 0 + 6 ≤ n ∧ Ψ "java/util/NoSuchElementException" S) else (wkLt (wu_Witnessworks_changeCount S l0A ((gWitnessworks_changeCount S l0A) - (1 : Int32))) fun S2 => wkLt ((((gWitnessworks_firstChange S2 l0A) + (gWitnessworks_changeCount S2 l0A)) - ((gWitnessworks_firstChange S2 l0A) + (gWitnessworks_changeCount S2 l0A)) / (24 : Int32) * (24 : Int32))) fun x3 => ¬ (x3 < 0 ∨ S2.len (wkAd (gWitnessworks_changeLetters S2 l0A)) ≤ (x3).toNatClampNeg) ∧ wkLt ((S2.rI (wkAd (gWitnessworks_changeLetters S2 l0A)) (x3).toNatClampNeg)) fun x5 => ¬ (x3 < 0 ∨ S2.len (wkAd (gWitnessworks_changedEntries S2 l0A)) ≤ (x3).toNatClampNeg) ∧ wkLt ((S2.rI (wkAd (gWitnessworks_changedEntries S2 l0A)) (x3).toNatClampNeg)) fun x7 => if x5 = (111 : Int32) then (rX11_forgetEntry F l0A x7 S2 fun v9 S10 => ((x5 : Int32).toUInt32 % 65536).toInt32 = x5 ∧ Φ x5 S10) else (if x5 = (121 : Int32) then (rX11_forgetEntry F l0A x7 S2 fun v29 S30 => ((x5 : Int32).toUInt32 % 65536).toInt32 = x5 ∧ Φ x5 S30) else (¬ (x7 < 0 ∨ S2.len (wkAd (gWitnessworks_book S2 l0A)) ≤ (x7).toNatClampNeg) ∧ ¬ (x3 < 0 ∨ S2.len (wkAd (gWitnessworks_before S2 l0A)) ≤ (x3).toNatClampNeg) ∧ rX3_copyQuestion F (wkAd (S2.rA (wkAd (gWitnessworks_book S2 l0A)) (x7).toNatClampNeg)) (wkAd (S2.rA (wkAd (gWitnessworks_before S2 l0A)) (x3).toNatClampNeg)) S2 fun v20 S21 => ¬ (x7 < 0 ∨ S21.len (wkAd (gWitnessworks_book S21 l0A)) ≤ (x7).toNatClampNeg) ∧ wkLt (wu_Entry_isSolved S21 (wkAd (S21.rA (wkAd (gWitnessworks_book S21 l0A)) (x7).toNatClampNeg)) (0 : Int32)) fun S27 => ((x5 : Int32).toUInt32 % 65536).toInt32 = x5 ∧ Φ x5 S27)))
set_option maxHeartbeats 4000000 in
set_option maxRecDepth 100000 in
theorem tX11_undo {l : Launch} {g : wkG} {F : Nat} {k n : Nat}  {S : wPS} {l0A : Nat} {Φ : (Int32 → wPS → Prop)} {Ψ : String → wPS → Prop} (hex : wkExA g) (hlt : l.stackTraces = false) (hW : wkWF S) (hl0A : wkIs S l0A 11) (h : rX11_undo F k n l0A S Φ Ψ) : wkMetX l g yX11_undo wvX11_undo 6 k n [.ref l0A] S (fun v' S'' => ∃ v : Int32, v' = some (.int v) ∧ Φ v S'' ∧ wkWF S'' ∧ wkExt S S'') (fun E S'' => Ψ E S'' ∧ wkWF S'' ∧ wkExt S S'') := by
  refine wkMetX_of (ret := (some .char)) (by decide) rfl (Nat.le_of_ble_eq_true rfl) rfl hex hlt (by decide) (fun X hg C hR E EX ET => ?_)
  subst hg
  have hE : wkExt S S := wkExt.rf
  have hd : 6 ≤ 6 := Nat.le_refl _
  show wkGo l X 4 0 0 0 S [some (.ref l0A), none, none, none] []
  unfold rX11_undo at h
  refine wk_aload_n C dX11_undo_0 rfl rfl ?_
  refine wk_get C (v := .int (gWitnessworks_changeCount S l0A)) huX11_undo_11 hl0A.1 (fun cy => wAt_11 cy _ hl0A.2) rfl 10 (by decide) (List.mem_of_getElem? (i := 1) rfl) rfl rfl dX11_undo_1 ?_
  refine wk_if_ne C (tgt := 17) dX11_undo_4 (by decide) (fun c1 => ?_) (fun c1 => ?_)
  · rw [if_neg c1] at h
    refine wk_aload_n C dX11_undo_17 rfl rfl ?_
    refine wk_dup C dX11_undo_18 rfl ?_
    refine wk_get C (v := .int (gWitnessworks_changeCount S l0A)) huX11_undo_11 hl0A.1 (fun cy => wAt_11 cy _ hl0A.2) rfl 10 (by decide) (List.mem_of_getElem? (i := 1) rfl) rfl rfl dX11_undo_19 ?_
    refine wk_iconst C (v := 1) dX11_undo_22 (by decide) ?_
    refine wk_isub C dX11_undo_23 rfl ?_
    obtain ⟨S2, eS2, h⟩ := wkLt_some h
    refine wk_put C (S' := S2) huX11_undo_11 hl0A.1 (fun cy => wAt_11 cy _ hl0A.2) rfl 10 (by decide) (List.mem_of_getElem? (i := 1) rfl) rfl tyX11_ok nmX11 rfl (ty := .int) rfl rfl rfl (by show 10 < 19; decide) (fun cy b => by rw [eS2]; exact wSt_11_10 cy _ hl0A.2 _ b) (by rw [eS2]) dX11_undo_24 ?_
    have hWS2 : wkWF S2 := by rw [eS2]; exact hW
    have hXS2 : wkExt S S2 := by rw [eS2]; exact wkExt.rf
    refine wk_aload_n C dX11_undo_27 rfl rfl ?_
    refine wk_get C (v := .int (gWitnessworks_firstChange S2 l0A)) huX11_undo_11 (hXS2 _ _ hl0A).1 (fun cy => wAt_11 cy _ (hXS2 _ _ hl0A).2) rfl 9 (by decide) (List.mem_of_getElem? (i := 2) rfl) rfl rfl dX11_undo_28 ?_
    refine wk_aload_n C dX11_undo_31 rfl rfl ?_
    refine wk_get C (v := .int (gWitnessworks_changeCount S2 l0A)) huX11_undo_11 (hXS2 _ _ hl0A).1 (fun cy => wAt_11 cy _ (hXS2 _ _ hl0A).2) rfl 10 (by decide) (List.mem_of_getElem? (i := 1) rfl) rfl rfl dX11_undo_32 ?_
    refine wk_iadd C dX11_undo_35 rfl ?_
    refine wk_bipush C (v := 24) dX11_undo_36 (by decide) ?_
    refine wk_irem C dX11_undo_38 (by decide) rfl ?_
    obtain ⟨x3, ex3, h⟩ := wkLt_some h
    refine wk_topi ex3 ?_
    refine wk_istore_n C (lv' := [some (.ref l0A), some (.int x3), none, none]) dX11_undo_39 rfl (by decide) rfl ?_
    refine wk_aload_n C dX11_undo_40 rfl rfl ?_
    refine wk_get C huX11_undo_11 (hXS2 _ _ hl0A).1 (fun cy => wAt_11 cy _ (hXS2 _ _ hl0A).2) rfl 7 (by decide) (List.mem_of_getElem? (i := 3) rfl) rfl (congrArg some (congrArg va_rf (wf_Witnessworks_changeLetters hWS2 (hXS2 _ _ hl0A)).1)) dX11_undo_41 ?_
    refine wk_iload_n C dX11_undo_44 rfl rfl ?_
    obtain ⟨i4, h⟩ := h
    refine wk_cald C (wf_Witnessworks_changeLetters hWS2 (hXS2 _ _ hl0A)).2.1 (wf_Witnessworks_changeLetters hWS2 (hXS2 _ _ hl0A)).2.2 i4 rfl dX11_undo_45 ?_
    obtain ⟨x5, ex5, h⟩ := wkLt_some h
    refine wk_topi ex5 ?_
    refine wk_istore_n C (lv' := [some (.ref l0A), some (.int x3), some (.int x5), none]) dX11_undo_46 rfl (by decide) rfl ?_
    refine wk_aload_n C dX11_undo_47 rfl rfl ?_
    refine wk_get C huX11_undo_11 (hXS2 _ _ hl0A).1 (fun cy => wAt_11 cy _ (hXS2 _ _ hl0A).2) rfl 8 (by decide) (List.mem_of_getElem? (i := 4) rfl) rfl (congrArg some (congrArg va_rf (wf_Witnessworks_changedEntries hWS2 (hXS2 _ _ hl0A)).1)) dX11_undo_48 ?_
    refine wk_iload_n C dX11_undo_51 rfl rfl ?_
    obtain ⟨i6, h⟩ := h
    refine wk_iald C (wf_Witnessworks_changedEntries hWS2 (hXS2 _ _ hl0A)).2.1 (wf_Witnessworks_changedEntries hWS2 (hXS2 _ _ hl0A)).2.2 i6 rfl dX11_undo_52 ?_
    obtain ⟨x7, ex7, h⟩ := wkLt_some h
    refine wk_topi ex7 ?_
    refine wk_istore_n C (lv' := [some (.ref l0A), some (.int x3), some (.int x5), some (.int x7)]) dX11_undo_53 rfl (by decide) rfl ?_
    refine wk_iload_n C dX11_undo_54 rfl rfl ?_
    refine wk_bipush C (v := 111) dX11_undo_55 (by decide) ?_
    refine wk_icmp_eq C (tgt := 66) dX11_undo_57 (by decide) (fun c8 => ?_) (fun c8 => ?_)
    · rw [if_pos c8] at h
      refine wk_aload_n C dX11_undo_66 rfl rfl ?_
      refine wk_iload_n C dX11_undo_67 rfl rfl ?_
      refine wk_callV C hR (As := [.int x7]) (cnt := 1) (tX11_forgetEntry (l := l) hWS2 (hXS2 _ _ hl0A) h) rfl (wkGoodV (List.mem_of_getElem? (i := 5) rfl) (List.mem_of_getElem? (i := 6) rfl) (List.mem_of_getElem? (i := 7) rfl) (List.mem_of_getElem? (i := 8) rfl) hbX11_undo_X11_forgetEntry gdX11_forgetEntry) (Nat.le_trans (by decide : 1 + 1 ≤ 6) hd) (by decide) (hXS2 _ _ hl0A).1 (fun cy => wAt_11 cy _ (hXS2 _ _ hl0A).2) rfl ⟨by decide, by decide, by decide +kernel⟩ rfl rfl (Nat.le_of_ble_eq_true rfl) (Nat.zero_le _) (Nat.zero_le _) dX11_undo_68 (fun v' S10 hp => ?_)
      obtain ⟨v9, rfl, h, hWS10, hXS10⟩ := hp
      refine wk_goto C (tgt := 99) dX11_undo_71 (by decide) ?_
      refine wk_iload_n C dX11_undo_99 rfl rfl ?_
      obtain ⟨b14, h⟩ := h
      exact E _ _ _ _ _ _ (Nat.zero_le _) (Nat.zero_le _) dX11_undo_100 (wkNarC b14) ⟨x5, rfl, h, hWS10, (wkExt.tr (wkExt.tr hE hXS2) hXS10)⟩
    · rw [if_neg c8] at h
      refine wk_iload_n C dX11_undo_60 rfl rfl ?_
      refine wk_bipush C (v := 121) dX11_undo_61 (by decide) ?_
      refine wk_icmp_ne C (tgt := 74) dX11_undo_63 (by decide) (fun c15 => ?_) (fun c15 => ?_)
      · rw [if_neg c15] at h
        refine wk_aload_n C dX11_undo_74 rfl rfl ?_
        refine wk_get C huX11_undo_11 (hXS2 _ _ hl0A).1 (fun cy => wAt_11 cy _ (hXS2 _ _ hl0A).2) rfl 1 (by decide) (List.mem_of_getElem? (i := 9) rfl) rfl (congrArg some (congrArg va_rf (wf_Witnessworks_book hWS2 (hXS2 _ _ hl0A)).1)) dX11_undo_75 ?_
        refine wk_iload_n C dX11_undo_78 rfl rfl ?_
        obtain ⟨i16, h⟩ := h
        have w17 := wf_REntry hWS2 (wf_Witnessworks_book hWS2 (hXS2 _ _ hl0A)).2 (Nat.not_le.mp fun q => i16 (Or.inr q))
        refine wk_aaldEntry C (wf_Witnessworks_book hWS2 (hXS2 _ _ hl0A)).2.1 (wf_Witnessworks_book hWS2 (hXS2 _ _ hl0A)).2.2 i16 w17.1 dX11_undo_79 ?_
        refine wk_aload_n C dX11_undo_80 rfl rfl ?_
        refine wk_get C huX11_undo_11 (hXS2 _ _ hl0A).1 (fun cy => wAt_11 cy _ (hXS2 _ _ hl0A).2) rfl 6 (by decide) (List.mem_of_getElem? (i := 10) rfl) rfl (congrArg some (congrArg va_rf (wf_Witnessworks_before hWS2 (hXS2 _ _ hl0A)).1)) dX11_undo_81 ?_
        refine wk_iload_n C dX11_undo_84 rfl rfl ?_
        obtain ⟨i18, h⟩ := h
        have w19 := wf_REntry hWS2 (wf_Witnessworks_before hWS2 (hXS2 _ _ hl0A)).2 (Nat.not_le.mp fun q => i18 (Or.inr q))
        refine wk_aaldEntry C (wf_Witnessworks_before hWS2 (hXS2 _ _ hl0A)).2.1 (wf_Witnessworks_before hWS2 (hXS2 _ _ hl0A)).2.2 i18 w19.1 dX11_undo_85 ?_
        refine wk_callV C hR (As := [.ref (wkAd (S2.rA (wkAd (gWitnessworks_before S2 l0A)) (x3).toNatClampNeg))]) (cnt := 1) (tX3_copyQuestion (l := l) hWS2 w17.2 w19.2 h) rfl (wkGoodV (List.mem_of_getElem? (i := 11) rfl) (List.mem_of_getElem? (i := 12) rfl) (List.mem_of_getElem? (i := 13) rfl) (List.mem_of_getElem? (i := 14) rfl) hbX11_undo_X3_copyQuestion gdX3_copyQuestion) (Nat.le_trans (by decide : 1 + 1 ≤ 6) hd) (by decide) w17.2.1 (fun cy => wAt_3 cy _ w17.2.2) rfl ⟨by decide, by decide, by decide +kernel⟩ rfl rfl (Nat.le_of_ble_eq_true rfl) (Nat.zero_le _) (Nat.zero_le _) dX11_undo_86 (fun v' S21 hp => ?_)
        obtain ⟨v20, rfl, h, hWS21, hXS21⟩ := hp
        refine wk_aload_n C dX11_undo_89 rfl rfl ?_
        refine wk_get C huX11_undo_11 (hXS21 _ _ (hXS2 _ _ hl0A)).1 (fun cy => wAt_11 cy _ (hXS21 _ _ (hXS2 _ _ hl0A)).2) rfl 1 (by decide) (List.mem_of_getElem? (i := 9) rfl) rfl (congrArg some (congrArg va_rf (wf_Witnessworks_book hWS21 (hXS21 _ _ (hXS2 _ _ hl0A))).1)) dX11_undo_90 ?_
        refine wk_iload_n C dX11_undo_93 rfl rfl ?_
        obtain ⟨i25, h⟩ := h
        have w26 := wf_REntry hWS21 (wf_Witnessworks_book hWS21 (hXS21 _ _ (hXS2 _ _ hl0A))).2 (Nat.not_le.mp fun q => i25 (Or.inr q))
        refine wk_aaldEntry C (wf_Witnessworks_book hWS21 (hXS21 _ _ (hXS2 _ _ hl0A))).2.1 (wf_Witnessworks_book hWS21 (hXS21 _ _ (hXS2 _ _ hl0A))).2.2 i25 w26.1 dX11_undo_94 ?_
        refine wk_iconst C (v := 0) dX11_undo_95 (by decide) ?_
        obtain ⟨S27, eS27, h⟩ := wkLt_some h
        refine wk_put C (S' := S27) huX11_undo_3 w26.2.1 (fun cy => wAt_3 cy _ w26.2.2) rfl 9 (by decide) (List.mem_of_getElem? (i := 15) rfl) rfl tyX3_ok nmX3 rfl (ty := .boolean) rfl rfl rfl (by show 9 < 17; decide) (fun cy b => by rw [eS27]; exact wSt_3_9 cy _ w26.2.2 _ b) (by rw [eS27]) dX11_undo_96 ?_
        have hWS27 : wkWF S27 := by rw [eS27]; exact hWS21
        have hXS27 : wkExt S21 S27 := by rw [eS27]; exact wkExt.rf
        refine wk_iload_n C dX11_undo_99 rfl rfl ?_
        obtain ⟨b28, h⟩ := h
        exact E _ _ _ _ _ _ (Nat.zero_le _) (Nat.zero_le _) dX11_undo_100 (wkNarC b28) ⟨x5, rfl, h, hWS27, (wkExt.tr (wkExt.tr (wkExt.tr hE hXS2) hXS21) hXS27)⟩
      · rw [if_pos c15] at h
        refine wk_aload_n C dX11_undo_66 rfl rfl ?_
        refine wk_iload_n C dX11_undo_67 rfl rfl ?_
        refine wk_callV C hR (As := [.int x7]) (cnt := 1) (tX11_forgetEntry (l := l) hWS2 (hXS2 _ _ hl0A) h) rfl (wkGoodV (List.mem_of_getElem? (i := 5) rfl) (List.mem_of_getElem? (i := 6) rfl) (List.mem_of_getElem? (i := 7) rfl) (List.mem_of_getElem? (i := 8) rfl) hbX11_undo_X11_forgetEntry gdX11_forgetEntry) (Nat.le_trans (by decide : 1 + 1 ≤ 6) hd) (by decide) (hXS2 _ _ hl0A).1 (fun cy => wAt_11 cy _ (hXS2 _ _ hl0A).2) rfl ⟨by decide, by decide, by decide +kernel⟩ rfl rfl (Nat.le_of_ble_eq_true rfl) (Nat.zero_le _) (Nat.zero_le _) dX11_undo_68 (fun v' S30 hp => ?_)
        obtain ⟨v29, rfl, h, hWS30, hXS30⟩ := hp
        refine wk_goto C (tgt := 99) dX11_undo_71 (by decide) ?_
        refine wk_iload_n C dX11_undo_99 rfl rfl ?_
        obtain ⟨b34, h⟩ := h
        exact E _ _ _ _ _ _ (Nat.zero_le _) (Nat.zero_le _) dX11_undo_100 (wkNarC b34) ⟨x5, rfl, h, hWS30, (wkExt.tr (wkExt.tr hE hXS2) hXS30)⟩
  · rw [if_pos c1] at h
    obtain ⟨t35a, t35b, h⟩ := h
    exact ET _ _ _ _ _ _ (197, 199, 201, "java/util/NoSuchElementException", "nothing to undo") (by decide +kernel) (Nat.le_of_ble_eq_true rfl) (Or.inl ⟨dX11_undo_7, dX11_undo_10, dX11_undo_11, dX11_undo_13, dX11_undo_16⟩) ⟨h, hW, hE⟩ t35a t35b
