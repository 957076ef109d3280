def wvX7_countPairs : List Cond := .code yX7_countPairs cX7_countPairs 7 none :: (([.fieldLink RX7 40 "Witnessworks$Entry" "size" "I", .fieldLink RX7 15 "Witnessworks$Networks" "best" "[I", .static yX11_lowest, .initialized RX11, .fieldLink RX7 9 "Witnessworks$Networks" "near" "[I", .static yX11_has, .methodLink RX7 76 Lib.Math.max.name, .static Lib.Math.max.name, .initialized "java/lang/Math", .code Lib.Math.max.name Lib.Math.max.code 2 (some .int), .methodLink RX7 64 yX3_fillNear, .instanceMethod yX3_fillNear, .selects RX3 yX3_fillNear yX3_fillNear, .initialized RX3] : List Cond) ++ ((wsX30 ++ (wsX70)) ++ (wvX11_lowest ++ (wvX11_has ++ (wvX3_fillNear)))))
theorem huX7_countPairs_3 : ∀ w ∈ u_ws RX3 TX3 17, w ∈ wvX7_countPairs := fun w h => List.mem_cons_of_mem _ (List.mem_append_right _ (List.mem_append_left _ (List.mem_append_left _ h)))
theorem huX7_countPairs_7 : ∀ w ∈ u_ws RX7 TX7 11, w ∈ wvX7_countPairs := fun w h => List.mem_cons_of_mem _ (List.mem_append_right _ (List.mem_append_left _ (List.mem_append_right _ h)))
theorem hbX7_countPairs_X11_lowest : ∀ w ∈ wvX11_lowest, w ∈ wvX7_countPairs := fun w h => List.mem_cons_of_mem _ (List.mem_append_right _ (List.mem_append_right _ (List.mem_append_left _ h)))
theorem hbX7_countPairs_X11_has : ∀ w ∈ wvX11_has, w ∈ wvX7_countPairs := fun w h => List.mem_cons_of_mem _ (List.mem_append_right _ (List.mem_append_right _ (List.mem_append_right _ (List.mem_append_left _ h))))
theorem hbX7_countPairs_X3_fillNear : ∀ w ∈ wvX3_fillNear, w ∈ wvX7_countPairs := fun w h => List.mem_cons_of_mem _ (List.mem_append_right _ (List.mem_append_right _ (List.mem_append_right _ (List.mem_append_right _ h))))
theorem gdX7_countPairs : ∀ w ∈ wvX7_countPairs, wkGd w := wkGdC rfl (wkGdA (wkGdL (by decide +kernel)) (wkGdA (wkGdA gdX3 gdX7) (wkGdA gdX11_lowest (wkGdA gdX11_has gdX3_fillNear))))
def rX7_countPairs_b0 (F : Nat) (rec : Nat → Nat → Nat → Int32 → Int32 → Int32 → Int32 → Int32 → wPS → (Unit → wPS → Prop) → Prop) (l0A : Nat) (l1A : Nat) (l2I : Int32) (S : wPS) (Φ : (Unit → wPS → Prop)) : Prop :=
  if ((1 : Int32) <<< ((gEntry_size S l1A) &&& 31)) ≤ l2I then (Φ () S) else (if (Int32.ofNat (S.len (wkAd (gNetworks_best S l0A)))) ≤ l2I then (Φ () S) else (rX11_lowest F l2I S fun v3 S4 => wkLt ((l2I &&& (((1 : Int32) <<< (v3 &&& 31)) ^^^ (-1 : Int32)))) fun x8 => ¬ (x8 < 0 ∨ S4.len (wkAd (gNetworks_best S4 l0A)) ≤ (x8).toNatClampNeg) ∧ wkLt ((S4.rI (wkAd (gNetworks_best S4 l0A)) (x8).toNatClampNeg)) fun x10 => wkLt ((v3 + (1 : Int32))) fun x11 => rec 1 l0A l1A l2I v3 x8 x10 x11 S4 Φ))
def rX7_countPairs_b1 (F : Nat) (rec : Nat → Nat → Nat → Int32 → Int32 → Int32 → Int32 → Int32 → wPS → (Unit → wPS → Prop) → Prop) (l0A : Nat) (l1A : Nat) (l2I : Int32) (l3I : Int32) (l4I : Int32) (l5I : Int32) (l6I : Int32) (S : wPS) (Φ : (Unit → wPS → Prop)) : Prop :=
  if (gEntry_size S l1A) ≤ l6I then (¬ (l2I < 0 ∨ S.len (wkAd (gNetworks_best S l0A)) ≤ (l2I).toNatClampNeg) ∧ wkLt (wuI S (wkAd (gNetworks_best S l0A)) l2I l5I) fun S14 => wkLt (l2I + (1 : Int32)) fun x15 => rec 0 l0A l1A x15 0 0 0 0 S14 Φ) else (¬ (l3I < 0 ∨ S.len (wkAd (gNetworks_near S l0A)) ≤ (l3I).toNatClampNeg) ∧ rX11_has F (l4I &&& (S.rI (wkAd (gNetworks_near S l0A)) (l3I).toNatClampNeg)) l6I S fun v17 S18 => if v17 = 0 then (wkLt (l6I + (1 : Int32)) fun x23 => rec 1 l0A l1A l2I l3I l4I l5I x23 S18 Φ) else (¬ ((l4I &&& (((1 : Int32) <<< (l6I &&& 31)) ^^^ (-1 : Int32))) < 0 ∨ S18.len (wkAd (gNetworks_best S18 l0A)) ≤ ((l4I &&& (((1 : Int32) <<< (l6I &&& 31)) ^^^ (-1 : Int32)))).toNatClampNeg) ∧ wkLt ((if l5I < ((1 : Int32) + (S18.rI (wkAd (gNetworks_best S18 l0A)) ((l4I &&& (((1 : Int32) <<< (l6I &&& 31)) ^^^ (-1 : Int32)))).toNatClampNeg)) then ((1 : Int32) + (S18.rI (wkAd (gNetworks_best S18 l0A)) ((l4I &&& (((1 : Int32) <<< (l6I &&& 31)) ^^^ (-1 : Int32)))).toNatClampNeg)) else l5I)) fun x25 => wkLt (l6I + (1 : Int32)) fun x26 => rec 1 l0A l1A l2I l3I l4I x25 x26 S18 Φ))
def rX7_countPairs_go (F : Nat) : Nat → Nat → Nat → Nat → Int32 → Int32 → Int32 → Int32 → Int32 → wPS → (Unit → wPS → Prop) → Prop
  | 0, _, _, _, _, _, _, _, _, _, _ => False
  | k' + 1, lab, l0A, l1A, l2I, l3I, l4I, l5I, l6I, S, Φ => if lab = 0 then rX7_countPairs_b0 F (rX7_countPairs_go F k') l0A l1A l2I S Φ else if lab = 1 then rX7_countPairs_b1 F (rX7_countPairs_go F k') l0A l1A l2I l3I l4I l5I l6I S Φ else False
def rX7_countPairs_s (F : Nat) (rec : Nat → Nat → Nat → Int32 → Int32 → Int32 → Int32 → Int32 → wPS → (Unit → wPS → Prop) → Prop) (l0A : Nat) (l1A : Nat) (S : wPS) (Φ : (Unit → wPS → Prop)) : Prop :=
  rX3_fillNear F l1A (wkAd (gNetworks_near S l0A)) (-1 : Int32) S fun v27 S28 => ¬ ((0 : Int32) < 0 ∨ S28.len (wkAd (gNetworks_best S28 l0A)) ≤ ((0 : Int32)).toNatClampNeg) ∧ wkLt (wuI S28 (wkAd (gNetworks_best S28 l0A)) (0 : Int32) (0 : Int32)) fun S33 => rec 0 l0A l1A (1 : Int32) 0 0 0 0 S33 Φ
def rX7_countPairs (F : Nat) (l0A : Nat) (l1A : Nat) (S : wPS) (Φ : (Unit → wPS → Prop)) : Prop := rX7_countPairs_s F (rX7_countPairs_go F F) l0A l1A S Φ
set_option maxHeartbeats 4000000 in
set_option maxRecDepth 100000 in
theorem tX7_countPairs_go {l : Launch} {X : wkX} {d F : Nat} {S0 : wPS} {Φ : (Unit → wPS → Prop)} (C : wkC X cX7_countPairs RX7 7 wvX7_countPairs) (hR : wkRm X d 0 0) (hd : 2 ≤ d) (E : wkEnd l X cX7_countPairs 7 none 0 0 (fun v' S'' => ∃ v : Unit, v' = none ∧ Φ v S'' ∧ wkWF S'' ∧ wkExt S0 S'')) : ∀ k' : Nat, (∀ (l0A : Nat) (l1A : Nat) (l2I : Int32) (S : wPS), wkWF S → wkExt S0 S → wkIs S l0A 7 → wkIs S l1A 3 → rX7_countPairs_go F k' 0 l0A l1A l2I 0 0 0 0 S Φ → wkGo l X 7 0 0 18 S [some (.ref l0A), some (.ref l1A), some (.int l2I), none, none, none, none] []) ∧ (∀ (l0A : Nat) (l1A : Nat) (l2I : Int32) (l3I : Int32) (l4I : Int32) (l5I : Int32) (l6I : Int32) (S : wPS), wkWF S → wkExt S0 S → wkIs S l0A 7 → wkIs S l1A 3 → rX7_countPairs_go F k' 1 l0A l1A l2I l3I l4I l5I l6I S Φ → wkGo l X 7 0 0 65 S [some (.ref l0A), some (.ref l1A), some (.int l2I), some (.int l3I), some (.int l4I), some (.int l5I), some (.int l6I)] []) := by
  intro k'
  induction k' with
  | zero => exact ⟨fun l0A l1A l2I S hW hE hl0A hl1A h => h.elim, fun l0A l1A l2I l3I l4I l5I l6I S hW hE hl0A hl1A h => h.elim⟩
  | succ k' ih =>
    refine ⟨?_, ?_⟩
    · intro l0A l1A l2I S hW hE hl0A hl1A h
      have h : rX7_countPairs_b0 F (rX7_countPairs_go F k') l0A l1A l2I S Φ := by
        rw [rX7_countPairs_go, if_pos (rfl : (0 : Nat) = 0)] at h
        exact h
      unfold rX7_countPairs_b0 at h
      refine wk_iload_n C dX7_countPairs_18 rfl rfl ?_
      refine wk_iconst C (v := 1) dX7_countPairs_19 (by decide) ?_
      refine wk_aload_n C dX7_countPairs_20 rfl rfl ?_
      refine wk_get C (v := .int (gEntry_size S l1A)) huX7_countPairs_3 hl1A.1 (fun cy => wAt_3 cy _ hl1A.2) rfl 1 (by decide) (List.mem_of_getElem? (i := 1) rfl) rfl rfl dX7_countPairs_21 ?_
      refine wk_ishl C dX7_countPairs_24 rfl ?_
      refine wk_icmp_ge C (tgt := 134) dX7_countPairs_25 (by decide) (fun c1 => ?_) (fun c1 => ?_)
      · rw [if_pos c1] at h
        exact E _ _ _ _ _ (Nat.le_refl 0) (Nat.le_refl 0) dX7_countPairs_134 ⟨(), rfl, h, hW, hE⟩
      · rw [if_neg c1] at h
        refine wk_iload_n C dX7_countPairs_28 rfl rfl ?_
        refine wk_aload_n C dX7_countPairs_29 rfl rfl ?_
        refine wk_get C huX7_countPairs_7 hl0A.1 (fun cy => wAt_7 cy _ hl0A.2) rfl 1 (by decide) (List.mem_of_getElem? (i := 2) rfl) rfl (congrArg some (congrArg va_rf (wf_Networks_best hW hl0A).1)) dX7_countPairs_30 ?_
        refine wk_ilen C (wf_Networks_best hW hl0A).2.1 (wf_Networks_best hW hl0A).2.2 rfl dX7_countPairs_33 ?_
        refine wk_icmp_ge C (tgt := 134) dX7_countPairs_34 (by decide) (fun c2 => ?_) (fun c2 => ?_)
        · rw [if_pos c2] at h
          exact E _ _ _ _ _ (Nat.le_refl 0) (Nat.le_refl 0) dX7_countPairs_134 ⟨(), rfl, h, hW, hE⟩
        · rw [if_neg c2] at h
          refine wk_iload_n C dX7_countPairs_37 rfl rfl ?_
          refine wk_callN C hR (y := yX11_lowest) (host := "Witnessworks") (As := [.int l2I]) (cnt := 1) (tX11_lowest (l := l) hW  h) rfl (fun w h => ⟨hbX7_countPairs_X11_lowest w h, gdX11_lowest w h⟩) (by decide +kernel) (List.mem_of_getElem? (i := 3) rfl) (List.mem_of_getElem? (i := 4) rfl) (Nat.le_trans (by decide : 1 + 1 ≤ 2) hd) (by decide) ⟨by decide, by decide, by decide +kernel⟩ rfl rfl (Nat.le_of_ble_eq_true rfl) (Nat.le_refl 0) (Nat.le_refl 0) dX7_countPairs_38 (fun v' S4 hp => ?_)
          obtain ⟨v3, rfl, h, hWS4, hXS4⟩ := hp
          refine wk_istore_n C (lv' := [some (.ref l0A), some (.ref l1A), some (.int l2I), some (.int v3), none, none, none]) dX7_countPairs_41 rfl (by decide) rfl ?_
          refine wk_iload_n C dX7_countPairs_42 rfl rfl ?_
          refine wk_iconst C (v := 1) dX7_countPairs_43 (by decide) ?_
          refine wk_iload_n C dX7_countPairs_44 rfl rfl ?_
          refine wk_ishl C dX7_countPairs_45 rfl ?_
          refine wk_iconst C (v := (-1)) dX7_countPairs_46 (by decide) ?_
          refine wk_ixor C dX7_countPairs_47 rfl ?_
          refine wk_iand C dX7_countPairs_48 rfl ?_
          obtain ⟨x8, ex8, h⟩ := wkLt_some h
          refine wk_topi ex8 ?_
          refine wk_istore C (lv' := [some (.ref l0A), some (.ref l1A), some (.int l2I), some (.int v3), some (.int x8), none, none]) dX7_countPairs_49 (by decide) rfl ?_
          refine wk_aload_n C dX7_countPairs_51 rfl rfl ?_
          refine wk_get C huX7_countPairs_7 (hXS4 _ _ hl0A).1 (fun cy => wAt_7 cy _ (hXS4 _ _ hl0A).2) rfl 1 (by decide) (List.mem_of_getElem? (i := 2) rfl) rfl (congrArg some (congrArg va_rf (wf_Networks_best hWS4 (hXS4 _ _ hl0A)).1)) dX7_countPairs_52 ?_
          refine wk_iload C dX7_countPairs_55 rfl ?_
          obtain ⟨i9, h⟩ := h
          refine wk_iald C (wf_Networks_best hWS4 (hXS4 _ _ hl0A)).2.1 (wf_Networks_best hWS4 (hXS4 _ _ hl0A)).2.2 i9 rfl dX7_countPairs_57 ?_
          obtain ⟨x10, ex10, h⟩ := wkLt_some h
          refine wk_topi ex10 ?_
          refine wk_istore C (lv' := [some (.ref l0A), some (.ref l1A), some (.int l2I), some (.int v3), some (.int x8), some (.int x10), none]) dX7_countPairs_58 (by decide) rfl ?_
          refine wk_iload_n C dX7_countPairs_60 rfl rfl ?_
          refine wk_iconst C (v := 1) dX7_countPairs_61 (by decide) ?_
          refine wk_iadd C dX7_countPairs_62 rfl ?_
          obtain ⟨x11, ex11, h⟩ := wkLt_some h
          refine wk_topi ex11 ?_
          refine wk_istore C (lv' := [some (.ref l0A), some (.ref l1A), some (.int l2I), some (.int v3), some (.int x8), some (.int x10), some (.int x11)]) dX7_countPairs_63 (by decide) rfl ?_
          exact wk_forget (lv' := [some (.ref l0A), some (.ref l1A), some (.int l2I), some (.int v3), some (.int x8), some (.int x10), some (.int x11)]) (wkLs.le ⟨rfl, rfl, rfl, rfl, rfl, rfl, rfl, trivial⟩) (ih.2 _ _ _ _ _ _ _ _ hWS4 (wkExt.tr hE hXS4) (hXS4 _ _ hl0A) (hXS4 _ _ hl1A) h)
    · intro l0A l1A l2I l3I l4I l5I l6I S hW hE hl0A hl1A h
      have h : rX7_countPairs_b1 F (rX7_countPairs_go F k') l0A l1A l2I l3I l4I l5I l6I S Φ := by
        rw [rX7_countPairs_go, if_neg (show ¬ (1 : Nat) = 0 by decide), if_pos (rfl : (1 : Nat) = 1)] at h
        exact h
      unfold rX7_countPairs_b1 at h
      refine wk_iload C dX7_countPairs_65 rfl ?_
      refine wk_aload_n C dX7_countPairs_67 rfl rfl ?_
      refine wk_get C (v := .int (gEntry_size S l1A)) huX7_countPairs_3 hl1A.1 (fun cy => wAt_3 cy _ hl1A.2) rfl 1 (by decide) (List.mem_of_getElem? (i := 1) rfl) rfl rfl dX7_countPairs_68 ?_
      refine wk_icmp_ge C (tgt := 120) dX7_countPairs_71 (by decide) (fun c12 => ?_) (fun c12 => ?_)
      · rw [if_pos c12] at h
        refine wk_aload_n C dX7_countPairs_120 rfl rfl ?_
        refine wk_get C huX7_countPairs_7 hl0A.1 (fun cy => wAt_7 cy _ hl0A.2) rfl 1 (by decide) (List.mem_of_getElem? (i := 2) rfl) rfl (congrArg some (congrArg va_rf (wf_Networks_best hW hl0A).1)) dX7_countPairs_121 ?_
        refine wk_iload_n C dX7_countPairs_124 rfl rfl ?_
        refine wk_iload C dX7_countPairs_125 rfl ?_
        obtain ⟨i13, h⟩ := h
        obtain ⟨S14, eS14, h⟩ := wkLt_some h
        refine wk_iast C (wf_Networks_best hW hl0A).2.1 (wf_Networks_best hW hl0A).2.2 i13 eS14.symm dX7_countPairs_127 ?_
        have hWS14 : wkWF S14 := by rw [eS14]; exact hW
        have hXS14 : wkExt S S14 := by rw [eS14]; exact wkExt.rf
        obtain ⟨x15, ex15, h⟩ := wkLt_some h
        refine wk_iinc C (lv' := [some (.ref l0A), some (.ref l1A), some (.int x15), some (.int l3I), some (.int l4I), some (.int l5I), some (.int l6I)]) dX7_countPairs_128 rfl (by rw [ex15]; rfl) (by decide) rfl ?_
        refine wk_goto C (tgt := 18) dX7_countPairs_131 (by decide) ?_
        exact wk_forget (lv' := [some (.ref l0A), some (.ref l1A), some (.int x15), none, none, none, none]) (wkLs.le ⟨rfl, rfl, rfl, trivial⟩) (ih.1 _ _ _ _ hWS14 (wkExt.tr hE hXS14) (hXS14 _ _ hl0A) (hXS14 _ _ hl1A) h)
      · rw [if_neg c12] at h
        refine wk_iload C dX7_countPairs_74 rfl ?_
        refine wk_aload_n C dX7_countPairs_76 rfl rfl ?_
        refine wk_get C huX7_countPairs_7 hl0A.1 (fun cy => wAt_7 cy _ hl0A.2) rfl 0 (by decide) (List.mem_of_getElem? (i := 5) rfl) rfl (congrArg some (congrArg va_rf (wf_Networks_near hW hl0A).1)) dX7_countPairs_77 ?_
        refine wk_iload_n C dX7_countPairs_80 rfl rfl ?_
        obtain ⟨i16, h⟩ := h
        refine wk_iald C (wf_Networks_near hW hl0A).2.1 (wf_Networks_near hW hl0A).2.2 i16 rfl dX7_countPairs_81 ?_
        refine wk_iand C dX7_countPairs_82 rfl ?_
        refine wk_iload C dX7_countPairs_83 rfl ?_
        refine wk_callN C hR (y := yX11_has) (host := "Witnessworks") (As := [.int (l4I &&& (S.rI (wkAd (gNetworks_near S l0A)) (l3I).toNatClampNeg)), .int l6I]) (cnt := 2) (tX11_has (l := l) hW  h) rfl (fun w h => ⟨hbX7_countPairs_X11_has w h, gdX11_has w h⟩) (by decide +kernel) (List.mem_of_getElem? (i := 6) rfl) (List.mem_of_getElem? (i := 4) rfl) (Nat.le_trans (by decide : 0 + 1 ≤ 2) hd) (by decide) ⟨by decide, by decide, by decide +kernel⟩ rfl rfl (Nat.le_of_ble_eq_true rfl) (Nat.le_refl 0) (Nat.le_refl 0) dX7_countPairs_85 (fun v' S18 hp => ?_)
        obtain ⟨v17, rfl, h, hWS18, hXS18⟩ := hp
        refine wk_if_eq C (tgt := 114) dX7_countPairs_88 (by decide) (fun c22 => ?_) (fun c22 => ?_)
        · rw [if_pos c22] at h
          obtain ⟨x23, ex23, h⟩ := wkLt_some h
          refine wk_iinc C (lv' := [some (.ref l0A), some (.ref l1A), some (.int l2I), some (.int l3I), some (.int l4I), some (.int l5I), some (.int x23)]) dX7_countPairs_114 rfl (by rw [ex23]; rfl) (by decide) rfl ?_
          refine wk_goto C (tgt := 65) dX7_countPairs_117 (by decide) ?_
          exact wk_forget (lv' := [some (.ref l0A), some (.ref l1A), some (.int l2I), some (.int l3I), some (.int l4I), some (.int l5I), some (.int x23)]) (wkLs.le ⟨rfl, rfl, rfl, rfl, rfl, rfl, rfl, trivial⟩) (ih.2 _ _ _ _ _ _ _ _ hWS18 (wkExt.tr hE hXS18) (hXS18 _ _ hl0A) (hXS18 _ _ hl1A) h)
        · rw [if_neg c22] at h
          refine wk_iload C dX7_countPairs_91 rfl ?_
          refine wk_iconst C (v := 1) dX7_countPairs_93 (by decide) ?_
          refine wk_aload_n C dX7_countPairs_94 rfl rfl ?_
          refine wk_get C huX7_countPairs_7 (hXS18 _ _ hl0A).1 (fun cy => wAt_7 cy _ (hXS18 _ _ hl0A).2) rfl 1 (by decide) (List.mem_of_getElem? (i := 2) rfl) rfl (congrArg some (congrArg va_rf (wf_Networks_best hWS18 (hXS18 _ _ hl0A)).1)) dX7_countPairs_95 ?_
          refine wk_iload C dX7_countPairs_98 rfl ?_
          refine wk_iconst C (v := 1) dX7_countPairs_100 (by decide) ?_
          refine wk_iload C dX7_countPairs_101 rfl ?_
          refine wk_ishl C dX7_countPairs_103 rfl ?_
          refine wk_iconst C (v := (-1)) dX7_countPairs_104 (by decide) ?_
          refine wk_ixor C dX7_countPairs_105 rfl ?_
          refine wk_iand C dX7_countPairs_106 rfl ?_
          obtain ⟨i24, h⟩ := h
          refine wk_iald C (wf_Networks_best hWS18 (hXS18 _ _ hl0A)).2.1 (wf_Networks_best hWS18 (hXS18 _ _ hl0A)).2.2 i24 rfl dX7_countPairs_107 ?_
          refine wk_iadd C dX7_countPairs_108 rfl ?_
          refine wk_mmax C hR (List.mem_of_getElem? (i := 7) rfl) (List.mem_of_getElem? (i := 8) rfl) (List.mem_of_getElem? (i := 9) rfl) (List.mem_of_getElem? (i := 10) rfl) (Nat.le_trans (by decide) hd) (Nat.le_refl 0) (Nat.le_refl 0) (Nat.le_of_ble_eq_true rfl) rfl dX7_countPairs_109 ?_
          obtain ⟨x25, ex25, h⟩ := wkLt_some h
          refine wk_topi ex25 ?_
          refine wk_istore C (lv' := [some (.ref l0A), some (.ref l1A), some (.int l2I), some (.int l3I), some (.int l4I), some (.int x25), some (.int l6I)]) dX7_countPairs_112 (by decide) rfl ?_
          obtain ⟨x26, ex26, h⟩ := wkLt_some h
          refine wk_iinc C (lv' := [some (.ref l0A), some (.ref l1A), some (.int l2I), some (.int l3I), some (.int l4I), some (.int x25), some (.int x26)]) dX7_countPairs_114 rfl (by rw [ex26]; rfl) (by decide) rfl ?_
          refine wk_goto C (tgt := 65) dX7_countPairs_117 (by decide) ?_
          exact wk_forget (lv' := [some (.ref l0A), some (.ref l1A), some (.int l2I), some (.int l3I), some (.int l4I), some (.int x25), some (.int x26)]) (wkLs.le ⟨rfl, rfl, rfl, rfl, rfl, rfl, rfl, trivial⟩) (ih.2 _ _ _ _ _ _ _ _ hWS18 (wkExt.tr hE hXS18) (hXS18 _ _ hl0A) (hXS18 _ _ hl1A) h)
set_option maxHeartbeats 4000000 in
set_option maxRecDepth 100000 in
theorem tX7_countPairs {l : Launch} {g : wkG} {F : Nat}  {S : wPS} {l0A : Nat} {l1A : Nat} {Φ : (Unit → wPS → Prop)} (hW : wkWF S) (hl0A : wkIs S l0A 7) (hl1A : wkIs S l1A 3) (h : rX7_countPairs F l0A l1A S Φ) : wkMet l g yX7_countPairs wvX7_countPairs 2 0 0 [.ref l0A, .ref l1A] S (fun v' S'' => ∃ v : Unit, v' = none ∧ Φ v S'' ∧ wkWF S'' ∧ wkExt S S'') := by
  refine wkMet_of (ret := none) (by decide) rfl (Nat.le_of_ble_eq_true rfl) (fun X hg C hR E => ?_)
  subst hg
  have hE : wkExt S S := wkExt.rf
  have hd : 2 ≤ 2 := Nat.le_refl _
  show wkGo l X 7 0 0 0 S [some (.ref l0A), some (.ref l1A), none, none, none, none, none] []
  have ih := tX7_countPairs_go (F := F) C hR hd E F
  have h : rX7_countPairs_s F (rX7_countPairs_go F F) l0A l1A S Φ := h
  unfold rX7_countPairs_s at h
  refine wk_aload_n C dX7_countPairs_0 rfl rfl ?_
  refine wk_aload_n C dX7_countPairs_1 rfl rfl ?_
  refine wk_get C huX7_countPairs_7 hl0A.1 (fun cy => wAt_7 cy _ hl0A.2) rfl 0 (by decide) (List.mem_of_getElem? (i := 5) rfl) rfl (congrArg some (congrArg va_rf (wf_Networks_near hW hl0A).1)) dX7_countPairs_2 ?_
  refine wk_iconst C (v := (-1)) dX7_countPairs_5 (by decide) ?_
  refine wk_callV C hR (As := [.ref (wkAd (gNetworks_near S l0A)), .int (-1 : Int32)]) (cnt := 2) (tX3_fillNear (l := l) hW hl1A (wf_Networks_near hW hl0A).2 h) rfl (wkGoodV (List.mem_of_getElem? (i := 11) rfl) (List.mem_of_getElem? (i := 12) rfl) (List.mem_of_getElem? (i := 13) rfl) (List.mem_of_getElem? (i := 14) rfl) hbX7_countPairs_X3_fillNear gdX3_fillNear) (Nat.le_trans (by decide : 1 + 1 ≤ 2) hd) (by decide) hl1A.1 (fun cy => wAt_3 cy _ hl1A.2) rfl ⟨by decide, by decide, by decide +kernel⟩ rfl rfl (Nat.le_of_ble_eq_true rfl) (Nat.le_refl 0) (Nat.le_refl 0) dX7_countPairs_6 (fun v' S28 hp => ?_)
  obtain ⟨v27, rfl, h, hWS28, hXS28⟩ := hp
  refine wk_aload_n C dX7_countPairs_9 rfl rfl ?_
  refine wk_get C huX7_countPairs_7 (hXS28 _ _ hl0A).1 (fun cy => wAt_7 cy _ (hXS28 _ _ hl0A).2) rfl 1 (by decide) (List.mem_of_getElem? (i := 2) rfl) rfl (congrArg some (congrArg va_rf (wf_Networks_best hWS28 (hXS28 _ _ hl0A)).1)) dX7_countPairs_10 ?_
  refine wk_iconst C (v := 0) dX7_countPairs_13 (by decide) ?_
  refine wk_iconst C (v := 0) dX7_countPairs_14 (by decide) ?_
  obtain ⟨i32, h⟩ := h
  obtain ⟨S33, eS33, h⟩ := wkLt_some h
  refine wk_iast C (wf_Networks_best hWS28 (hXS28 _ _ hl0A)).2.1 (wf_Networks_best hWS28 (hXS28 _ _ hl0A)).2.2 i32 eS33.symm dX7_countPairs_15 ?_
  have hWS33 : wkWF S33 := by rw [eS33]; exact hWS28
  have hXS33 : wkExt S28 S33 := by rw [eS33]; exact wkExt.rf
  refine wk_iconst C (v := 1) dX7_countPairs_16 (by decide) ?_
  refine wk_istore_n C (lv' := [some (.ref l0A), some (.ref l1A), some (.int (1 : Int32)), none, none, none, none]) dX7_countPairs_17 rfl (by decide) rfl ?_
  exact wk_forget (lv' := [some (.ref l0A), some (.ref l1A), some (.int (1 : Int32)), none, none, none, none]) (wkLs.le ⟨rfl, rfl, rfl, trivial⟩) (ih.1 _ _ _ _ hWS33 (wkExt.tr (wkExt.tr hE hXS28) hXS33) (hXS33 _ _ (hXS28 _ _ hl0A)) (hXS33 _ _ (hXS28 _ _ hl1A)) h)
def wvX7_partnerOf : List Cond := .code yX7_partnerOf cX7_partnerOf 6 (some .int) :: (([.fieldLink RX7 9 "Witnessworks$Networks" "near" "[I", .static yX11_has, .initialized RX11, .fieldLink RX7 15 "Witnessworks$Networks" "best" "[I"] : List Cond) ++ ((wsX70) ++ (wvX11_has)))
theorem huX7_partnerOf_7 : ∀ w ∈ u_ws RX7 TX7 11, w ∈ wvX7_partnerOf := fun w h => List.mem_cons_of_mem _ (List.mem_append_right _ (List.mem_append_left _ h))
theorem hbX7_partnerOf_X11_has : ∀ w ∈ wvX11_has, w ∈ wvX7_partnerOf := fun w h => List.mem_cons_of_mem _ (List.mem_append_right _ (List.mem_append_right _ h))
theorem gdX7_partnerOf : ∀ w ∈ wvX7_partnerOf, wkGd w := wkGdC rfl (wkGdA (wkGdL (by decide +kernel)) (wkGdA gdX7 gdX11_has))
def rX7_partnerOf_b0 (F : Nat) (rec : Nat → Nat → Int32 → Int32 → Int32 → Int32 → Int32 → wPS → (Int32 → wPS → Prop) → Prop) (l0A : Nat) (l1I : Int32) (l2I : Int32) (l3I : Int32) (l4I : Int32) (l5I : Int32) (S : wPS) (Φ : (Int32 → wPS → Prop)) : Prop :=
  if l3I ≤ l5I then (Φ l1I S) else (¬ (l1I < 0 ∨ S.len (wkAd (gNetworks_near S l0A)) ≤ (l1I).toNatClampNeg) ∧ rX11_has F (l4I &&& (S.rI (wkAd (gNetworks_near S l0A)) (l1I).toNatClampNeg)) l5I S fun v3 S4 => if v3 = 0 then (wkLt (l5I + (1 : Int32)) fun x9 => rec 0 l0A l1I l2I l3I l4I x9 S4 Φ) else (¬ ((l4I &&& (((1 : Int32) <<< (l5I &&& 31)) ^^^ (-1 : Int32))) < 0 ∨ S4.len (wkAd (gNetworks_best S4 l0A)) ≤ ((l4I &&& (((1 : Int32) <<< (l5I &&& 31)) ^^^ (-1 : Int32)))).toNatClampNeg) ∧ ¬ (l2I < 0 ∨ S4.len (wkAd (gNetworks_best S4 l0A)) ≤ (l2I).toNatClampNeg) ∧ if ((S4.rI (wkAd (gNetworks_best S4 l0A)) ((l4I &&& (((1 : Int32) <<< (l5I &&& 31)) ^^^ (-1 : Int32)))).toNatClampNeg) + (1 : Int32)) = (S4.rI (wkAd (gNetworks_best S4 l0A)) (l2I).toNatClampNeg) then (Φ l5I S4) else (wkLt (l5I + (1 : Int32)) fun x13 => rec 0 l0A l1I l2I l3I l4I x13 S4 Φ)))
def rX7_partnerOf_go (F : Nat) : Nat → Nat → Nat → Int32 → Int32 → Int32 → Int32 → Int32 → wPS → (Int32 → wPS → Prop) → Prop
  | 0, _, _, _, _, _, _, _, _, _ => False
  | k' + 1, lab, l0A, l1I, l2I, l3I, l4I, l5I, S, Φ => if lab = 0 then rX7_partnerOf_b0 F (rX7_partnerOf_go F k') l0A l1I l2I l3I l4I l5I S Φ else False
def rX7_partnerOf_s (F : Nat) (rec : Nat → Nat → Int32 → Int32 → Int32 → Int32 → Int32 → wPS → (Int32 → wPS → Prop) → Prop) (l0A : Nat) (l1I : Int32) (l2I : Int32) (l3I : Int32) (S : wPS) (Φ : (Int32 → wPS → Prop)) : Prop :=
  wkLt ((l2I &&& (((1 : Int32) <<< (l1I &&& 31)) ^^^ (-1 : Int32)))) fun x14 => ¬ (x14 < 0 ∨ S.len (wkAd (gNetworks_best S l0A)) ≤ (x14).toNatClampNeg) ∧ ¬ (l2I < 0 ∨ S.len (wkAd (gNetworks_best S l0A)) ≤ (l2I).toNatClampNeg) ∧ if (S.rI (wkAd (gNetworks_best S l0A)) (x14).toNatClampNeg) = (S.rI (wkAd (gNetworks_best S l0A)) (l2I).toNatClampNeg) then (Φ l1I S) else (wkLt ((l1I + (1 : Int32))) fun x18 => rec 0 l0A l1I l2I l3I x14 x18 S Φ)
def rX7_partnerOf (F : Nat) (l0A : Nat) (l1I : Int32) (l2I : Int32) (l3I : Int32) (S : wPS) (Φ : (Int32 → wPS → Prop)) : Prop := rX7_partnerOf_s F (rX7_partnerOf_go F F) l0A l1I l2I l3I S Φ
set_option maxHeartbeats 4000000 in
set_option maxRecDepth 100000 in
theorem tX7_partnerOf_go {l : Launch} {X : wkX} {d F : Nat} {S0 : wPS} {Φ : (Int32 → wPS → Prop)} (C : wkC X cX7_partnerOf RX7 6 wvX7_partnerOf) (hR : wkRm X d 0 0) (hd : 1 ≤ d) (E : wkEnd l X cX7_partnerOf 6 (some .int) 0 0 (fun v' S'' => ∃ v : Int32, v' = some (.int v) ∧ Φ v S'' ∧ wkWF S'' ∧ wkExt S0 S'')) : ∀ k' : Nat, (∀ (l0A : Nat) (l1I : Int32) (l2I : Int32) (l3I : Int32) (l4I : Int32) (l5I : Int32) (S : wPS), wkWF S → wkExt S0 S → wkIs S l0A 7 → rX7_partnerOf_go F k' 0 l0A l1I l2I l3I l4I l5I S Φ → wkGo l X 6 0 0 32 S [some (.ref l0A), some (.int l1I), some (.int l2I), some (.int l3I), some (.int l4I), some (.int l5I)] []) := by
  intro k'
  induction k' with
  | zero => exact fun l0A l1I l2I l3I l4I l5I S hW hE hl0A h => h.elim
  | succ k' ih =>
    · intro l0A l1I l2I l3I l4I l5I S hW hE hl0A h
      have h : rX7_partnerOf_b0 F (rX7_partnerOf_go F k') l0A l1I l2I l3I l4I l5I S Φ := by
        rw [rX7_partnerOf_go, if_pos (rfl : (0 : Nat) = 0)] at h
        exact h
      unfold rX7_partnerOf_b0 at h
      refine wk_iload C dX7_partnerOf_32 rfl ?_
      refine wk_iload_n C dX7_partnerOf_34 rfl rfl ?_
      refine wk_icmp_ge C (tgt := 89) dX7_partnerOf_35 (by decide) (fun c1 => ?_) (fun c1 => ?_)
      · rw [if_pos c1] at h
        refine wk_iload_n C dX7_partnerOf_89 rfl rfl ?_
        exact E _ _ _ _ _ _ (Nat.le_refl 0) (Nat.le_refl 0) dX7_partnerOf_90 ⟨l1I, rfl, h, hW, hE⟩
      · rw [if_neg c1] at h
        refine wk_iload C dX7_partnerOf_38 rfl ?_
        refine wk_aload_n C dX7_partnerOf_40 rfl rfl ?_
        refine wk_get C huX7_partnerOf_7 hl0A.1 (fun cy => wAt_7 cy _ hl0A.2) rfl 0 (by decide) (List.mem_of_getElem? (i := 1) rfl) rfl (congrArg some (congrArg va_rf (wf_Networks_near hW hl0A).1)) dX7_partnerOf_41 ?_
        refine wk_iload_n C dX7_partnerOf_44 rfl rfl ?_
        obtain ⟨i2, h⟩ := h
        refine wk_iald C (wf_Networks_near hW hl0A).2.1 (wf_Networks_near hW hl0A).2.2 i2 rfl dX7_partnerOf_45 ?_
        refine wk_iand C dX7_partnerOf_46 rfl ?_
        refine wk_iload C dX7_partnerOf_47 rfl ?_
        refine wk_callN C hR (y := yX11_has) (host := "Witnessworks") (As := [.int (l4I &&& (S.rI (wkAd (gNetworks_near S l0A)) (l1I).toNatClampNeg)), .int l5I]) (cnt := 2) (tX11_has (l := l) hW  h) rfl (fun w h => ⟨hbX7_partnerOf_X11_has w h, gdX11_has w h⟩) (by decide +kernel) (List.mem_of_getElem? (i := 2) rfl) (List.mem_of_getElem? (i := 3) rfl) (Nat.le_trans (by decide : 0 + 1 ≤ 1) hd) (by decide) ⟨by decide, by decide, by decide +kernel⟩ rfl rfl (Nat.le_of_ble_eq_true rfl) (Nat.le_refl 0) (Nat.le_refl 0) dX7_partnerOf_49 (fun v' S4 hp => ?_)
        obtain ⟨v3, rfl, h, hWS4, hXS4⟩ := hp
        refine wk_if_eq C (tgt := 83) dX7_partnerOf_52 (by decide) (fun c8 => ?_) (fun c8 => ?_)
        · rw [if_pos c8] at h
          obtain ⟨x9, ex9, h⟩ := wkLt_some h
          refine wk_iinc C (lv' := [some (.ref l0A), some (.int l1I), some (.int l2I), some (.int l3I), some (.int l4I), some (.int x9)]) dX7_partnerOf_83 rfl (by rw [ex9]; rfl) (by decide) rfl ?_
          refine wk_goto C (tgt := 32) dX7_partnerOf_86 (by decide) ?_
          exact wk_forget (lv' := [some (.ref l0A), some (.int l1I), some (.int l2I), some (.int l3I), some (.int l4I), some (.int x9)]) (wkLs.le ⟨rfl, rfl, rfl, rfl, rfl, rfl, trivial⟩) (ih _ _ _ _ _ _ _ hWS4 (wkExt.tr hE hXS4) (hXS4 _ _ hl0A) h)
        · rw [if_neg c8] at h
          refine wk_aload_n C dX7_partnerOf_55 rfl rfl ?_
          refine wk_get C huX7_partnerOf_7 (hXS4 _ _ hl0A).1 (fun cy => wAt_7 cy _ (hXS4 _ _ hl0A).2) rfl 1 (by decide) (List.mem_of_getElem? (i := 4) rfl) rfl (congrArg some (congrArg va_rf (wf_Networks_best hWS4 (hXS4 _ _ hl0A)).1)) dX7_partnerOf_56 ?_
          refine wk_iload C dX7_partnerOf_59 rfl ?_
          refine wk_iconst C (v := 1) dX7_partnerOf_61 (by decide) ?_
          refine wk_iload C dX7_partnerOf_62 rfl ?_
          refine wk_ishl C dX7_partnerOf_64 rfl ?_
          refine wk_iconst C (v := (-1)) dX7_partnerOf_65 (by decide) ?_
          refine wk_ixor C dX7_partnerOf_66 rfl ?_
          refine wk_iand C dX7_partnerOf_67 rfl ?_
          obtain ⟨i10, h⟩ := h
          refine wk_iald C (wf_Networks_best hWS4 (hXS4 _ _ hl0A)).2.1 (wf_Networks_best hWS4 (hXS4 _ _ hl0A)).2.2 i10 rfl dX7_partnerOf_68 ?_
          refine wk_iconst C (v := 1) dX7_partnerOf_69 (by decide) ?_
          refine wk_iadd C dX7_partnerOf_70 rfl ?_
          refine wk_aload_n C dX7_partnerOf_71 rfl rfl ?_
          refine wk_get C huX7_partnerOf_7 (hXS4 _ _ hl0A).1 (fun cy => wAt_7 cy _ (hXS4 _ _ hl0A).2) rfl 1 (by decide) (List.mem_of_getElem? (i := 4) rfl) rfl (congrArg some (congrArg va_rf (wf_Networks_best hWS4 (hXS4 _ _ hl0A)).1)) dX7_partnerOf_72 ?_
          refine wk_iload_n C dX7_partnerOf_75 rfl rfl ?_
          obtain ⟨i11, h⟩ := h
          refine wk_iald C (wf_Networks_best hWS4 (hXS4 _ _ hl0A)).2.1 (wf_Networks_best hWS4 (hXS4 _ _ hl0A)).2.2 i11 rfl dX7_partnerOf_76 ?_
          refine wk_icmp_ne C (tgt := 83) dX7_partnerOf_77 (by decide) (fun c12 => ?_) (fun c12 => ?_)
          · rw [if_neg c12] at h
            obtain ⟨x13, ex13, h⟩ := wkLt_some h
            refine wk_iinc C (lv' := [some (.ref l0A), some (.int l1I), some (.int l2I), some (.int l3I), some (.int l4I), some (.int x13)]) dX7_partnerOf_83 rfl (by rw [ex13]; rfl) (by decide) rfl ?_
            refine wk_goto C (tgt := 32) dX7_partnerOf_86 (by decide) ?_
            exact wk_forget (lv' := [some (.ref l0A), some (.int l1I), some (.int l2I), some (.int l3I), some (.int l4I), some (.int x13)]) (wkLs.le ⟨rfl, rfl, rfl, rfl, rfl, rfl, trivial⟩) (ih _ _ _ _ _ _ _ hWS4 (wkExt.tr hE hXS4) (hXS4 _ _ hl0A) h)
          · rw [if_pos c12] at h
            refine wk_iload C dX7_partnerOf_80 rfl ?_
            exact E _ _ _ _ _ _ (Nat.le_refl 0) (Nat.le_refl 0) dX7_partnerOf_82 ⟨l5I, rfl, h, hWS4, (wkExt.tr hE hXS4)⟩
set_option maxHeartbeats 4000000 in
set_option maxRecDepth 100000 in
theorem tX7_partnerOf {l : Launch} {g : wkG} {F : Nat}  {S : wPS} {l0A : Nat} {l1I : Int32} {l2I : Int32} {l3I : Int32} {Φ : (Int32 → wPS → Prop)} (hW : wkWF S) (hl0A : wkIs S l0A 7) (h : rX7_partnerOf F l0A l1I l2I l3I S Φ) : wkMet l g yX7_partnerOf wvX7_partnerOf 1 0 0 [.ref l0A, .int l1I, .int l2I, .int l3I] S (fun v' S'' => ∃ v : Int32, v' = some (.int v) ∧ Φ v S'' ∧ wkWF S'' ∧ wkExt S S'') := by
  refine wkMet_of (ret := (some .int)) (by decide) rfl (Nat.le_of_ble_eq_true rfl) (fun X hg C hR E => ?_)
  subst hg
  have hE : wkExt S S := wkExt.rf
  have hd : 1 ≤ 1 := Nat.le_refl _
  show wkGo l X 6 0 0 0 S [some (.ref l0A), some (.int l1I), some (.int l2I), some (.int l3I), none, none] []
  have ih := tX7_partnerOf_go (F := F) C hR hd E F
  have h : rX7_partnerOf_s F (rX7_partnerOf_go F F) l0A l1I l2I l3I S Φ := h
  unfold rX7_partnerOf_s at h
  refine wk_iload_n C dX7_partnerOf_0 rfl rfl ?_
  refine wk_iconst C (v := 1) dX7_partnerOf_1 (by decide) ?_
  refine wk_iload_n C dX7_partnerOf_2 rfl rfl ?_
  refine wk_ishl C dX7_partnerOf_3 rfl ?_
  refine wk_iconst C (v := (-1)) dX7_partnerOf_4 (by decide) ?_
  refine wk_ixor C dX7_partnerOf_5 rfl ?_
  refine wk_iand C dX7_partnerOf_6 rfl ?_
  obtain ⟨x14, ex14, h⟩ := wkLt_some h
  refine wk_topi ex14 ?_
  refine wk_istore C (lv' := [some (.ref l0A), some (.int l1I), some (.int l2I), some (.int l3I), some (.int x14), none]) dX7_partnerOf_7 (by decide) rfl ?_
  refine wk_aload_n C dX7_partnerOf_9 rfl rfl ?_
  refine wk_get C huX7_partnerOf_7 hl0A.1 (fun cy => wAt_7 cy _ hl0A.2) rfl 1 (by decide) (List.mem_of_getElem? (i := 4) rfl) rfl (congrArg some (congrArg va_rf (wf_Networks_best hW hl0A).1)) dX7_partnerOf_10 ?_
  refine wk_iload C dX7_partnerOf_13 rfl ?_
  obtain ⟨i15, h⟩ := h
  refine wk_iald C (wf_Networks_best hW hl0A).2.1 (wf_Networks_best hW hl0A).2.2 i15 rfl dX7_partnerOf_15 ?_
  refine wk_aload_n C dX7_partnerOf_16 rfl rfl ?_
  refine wk_get C huX7_partnerOf_7 hl0A.1 (fun cy => wAt_7 cy _ hl0A.2) rfl 1 (by decide) (List.mem_of_getElem? (i := 4) rfl) rfl (congrArg some (congrArg va_rf (wf_Networks_best hW hl0A).1)) dX7_partnerOf_17 ?_
  refine wk_iload_n C dX7_partnerOf_20 rfl rfl ?_
  obtain ⟨i16, h⟩ := h
  refine wk_iald C (wf_Networks_best hW hl0A).2.1 (wf_Networks_best hW hl0A).2.2 i16 rfl dX7_partnerOf_21 ?_
  refine wk_icmp_ne C (tgt := 27) dX7_partnerOf_22 (by decide) (fun c17 => ?_) (fun c17 => ?_)
  · rw [if_neg c17] at h
    refine wk_iload_n C dX7_partnerOf_27 rfl rfl ?_
    refine wk_iconst C (v := 1) dX7_partnerOf_28 (by decide) ?_
    refine wk_iadd C dX7_partnerOf_29 rfl ?_
    obtain ⟨x18, ex18, h⟩ := wkLt_some h
    refine wk_topi ex18 ?_
    refine wk_istore C (lv' := [some (.ref l0A), some (.int l1I), some (.int l2I), some (.int l3I), some (.int x14), some (.int x18)]) dX7_partnerOf_30 (by decide) rfl ?_
    exact wk_forget (lv' := [some (.ref l0A), some (.int l1I), some (.int l2I), some (.int l3I), some (.int x14), some (.int x18)]) (wkLs.le ⟨rfl, rfl, rfl, rfl, rfl, rfl, trivial⟩) (ih _ _ _ _ _ _ _ hW hE hl0A h)
  · rw [if_pos c17] at h
    refine wk_iload_n C dX7_partnerOf_25 rfl rfl ?_
    exact E _ _ _ _ _ _ (Nat.le_refl 0) (Nat.le_refl 0) dX7_partnerOf_26 ⟨l1I, rfl, h, hW, hE⟩
