def wvX11_entryAt : List Cond := .code yX11_entryAt cX11_entryAt 2 (some (.object "Witnessworks$Entry")) :: (([.fieldLink RX11 86 "Witnessworks" "entryCount" "I", .fieldLink RX11 18 "Witnessworks" "book" "[LWitnessworks$Entry;"] : List Cond) ++ ((wsX110) ++ ([])))
theorem huX11_entryAt_11 : ∀ w ∈ u_ws RX11 TX11 19, w ∈ wvX11_entryAt := fun w h => List.mem_cons_of_mem _ (List.mem_append_right _ (List.mem_append_left _ h))
theorem gdX11_entryAt : ∀ w ∈ wvX11_entryAt, wkGd w := wkGdC rfl (wkGdA (wkGdL (by decide +kernel)) (wkGdA gdX11 (fun _ h => absurd h List.not_mem_nil)))
def rX11_entryAt (F : Nat) (k n : Nat) (l0A : Nat) (l1I : Int32) (S : wPS) (Φ : (Nat → wPS → Prop)) (Ψ : String → wPS → Prop) : Prop :=
  if l1I < 0 then (0 + 1 ≤ k ∧ 0 + 6 ≤ n ∧ Ψ "java/lang/IndexOutOfBoundsException" S) else (if l1I < (gWitnessworks_entryCount S l0A) then (¬ (l1I < 0 ∨ S.len (wkAd (gWitnessworks_book S l0A)) ≤ (l1I).toNatClampNeg) ∧ Φ (wkAd (S.rA (wkAd (gWitnessworks_book S l0A)) (l1I).toNatClampNeg)) S) else (0 + 1 ≤ k ∧ 0 + 6 ≤ n ∧ Ψ "java/lang/IndexOutOfBoundsException" S))
set_option maxHeartbeats 4000000 in
set_option maxRecDepth 100000 in
theorem tX11_entryAt {l : Launch} {g : wkG} {F : Nat} {k n : Nat}  {S : wPS} {l0A : Nat} {l1I : Int32} {Φ : (Nat → wPS → Prop)} {Ψ : String → wPS → Prop} (hex : wkExA g) (hlt : l.stackTraces = false) (hW : wkWF S) (hl0A : wkIs S l0A 11) (h : rX11_entryAt F k n l0A l1I S Φ Ψ) : wkMetX l g yX11_entryAt wvX11_entryAt 6 k n [.ref l0A, .int l1I] S (fun v' S'' => ∃ v : Nat, v' = some (.ref v) ∧ Φ v S'' ∧ wkWF S'' ∧ wkExt S S'' ∧ wkIs S'' v 3) (fun E S'' => Ψ E S'' ∧ wkWF S'' ∧ wkExt S S'') := by
  refine wkMetX_of (ret := (some (.object "Witnessworks$Entry"))) (by decide) rfl (Nat.le_of_ble_eq_true rfl) rfl hex hlt (by decide) (fun X hg C hR E EX ET => ?_)
  subst hg
  have hE : wkExt S S := wkExt.rf
  have hd : 6 ≤ 6 := Nat.le_refl _
  show wkGo l X 2 0 0 0 S [some (.ref l0A), some (.int l1I)] []
  unfold rX11_entryAt at h
  refine wk_iload_n C dX11_entryAt_0 rfl rfl ?_
  refine wk_if_lt C (tgt := 12) dX11_entryAt_1 (by decide) (fun c1 => ?_) (fun c1 => ?_)
  · rw [if_pos c1] at h
    obtain ⟨t2a, t2b, h⟩ := h
    exact ET _ _ _ _ _ _ (386, 472, 390, "java/lang/IndexOutOfBoundsException", "no such entry") (by decide +kernel) (Nat.le_of_ble_eq_true rfl) (Or.inr ⟨dX11_entryAt_12, dX11_entryAt_15, dX11_entryAt_16, dX11_entryAt_19, dX11_entryAt_22⟩) ⟨h, hW, hE⟩ t2a t2b
  · rw [if_neg c1] at h
    refine wk_iload_n C dX11_entryAt_4 rfl rfl ?_
    refine wk_aload_n C dX11_entryAt_5 rfl rfl ?_
    refine wk_get C (v := .int (gWitnessworks_entryCount S l0A)) huX11_entryAt_11 hl0A.1 (fun cy => wAt_11 cy _ hl0A.2) rfl 2 (by decide) (List.mem_of_getElem? (i := 1) rfl) rfl rfl dX11_entryAt_6 ?_
    refine wk_icmp_lt C (tgt := 23) dX11_entryAt_9 (by decide) (fun c3 => ?_) (fun c3 => ?_)
    · rw [if_pos c3] at h
      refine wk_aload_n C dX11_entryAt_23 rfl rfl ?_
      refine wk_get C huX11_entryAt_11 hl0A.1 (fun cy => wAt_11 cy _ hl0A.2) rfl 1 (by decide) (List.mem_of_getElem? (i := 2) rfl) rfl (congrArg some (congrArg va_rf (wf_Witnessworks_book hW hl0A).1)) dX11_entryAt_24 ?_
      refine wk_iload_n C dX11_entryAt_27 rfl rfl ?_
      obtain ⟨i4, h⟩ := h
      have w5 := wf_REntry hW (wf_Witnessworks_book hW hl0A).2 (Nat.not_le.mp fun q => i4 (Or.inr q))
      refine wk_aaldEntry C (wf_Witnessworks_book hW hl0A).2.1 (wf_Witnessworks_book hW hl0A).2.2 i4 w5.1 dX11_entryAt_28 ?_
      exact E _ _ _ _ _ _ (Nat.zero_le _) (Nat.zero_le _) dX11_entryAt_29 ⟨(wkAd (S.rA (wkAd (gWitnessworks_book S l0A)) (l1I).toNatClampNeg)), rfl, h, hW, hE, w5.2⟩
    · rw [if_neg c3] at h
      obtain ⟨t6a, t6b, h⟩ := h
      exact ET _ _ _ _ _ _ (386, 472, 390, "java/lang/IndexOutOfBoundsException", "no such entry") (by decide +kernel) (Nat.le_of_ble_eq_true rfl) (Or.inr ⟨dX11_entryAt_12, dX11_entryAt_15, dX11_entryAt_16, dX11_entryAt_19, dX11_entryAt_22⟩) ⟨h, hW, hE⟩ t6a t6b
def wvX11_testPlace : List Cond := .code yX11_testPlace cX11_testPlace 2 none :: (([] : List Cond) ++ (([]) ++ ([])))
theorem gdX11_testPlace : ∀ w ∈ wvX11_testPlace, wkGd w := wkGdC rfl (wkGdA (wkGdL (by decide +kernel)) (wkGdA (fun _ h => absurd h List.not_mem_nil) (fun _ h => absurd h List.not_mem_nil)))
def rX11_testPlace (F : Nat) (k n : Nat) (l0I : Int32) (l1I : Int32) (S : wPS) (Φ : (Unit → wPS → Prop)) (Ψ : String → wPS → Prop) : Prop :=
  if l0I < 0 then (0 + 1 ≤ k ∧ 0 + 6 ≤ n ∧ Ψ "java/util/NoSuchElementException" S) else (if l0I < l1I then (Φ () S) else (0 + 1 ≤ k ∧ 0 + 6 ≤ n ∧ Ψ "java/util/NoSuchElementException" S))
set_option maxHeartbeats 4000000 in
set_option maxRecDepth 100000 in
theorem tX11_testPlace {l : Launch} {g : wkG} {F : Nat} {k n : Nat}  {S : wPS} {l0I : Int32} {l1I : Int32} {Φ : (Unit → wPS → Prop)} {Ψ : String → wPS → Prop} (hex : wkExA g) (hlt : l.stackTraces = false) (hW : wkWF S)  (h : rX11_testPlace F k n l0I l1I S Φ Ψ) : wkMetX l g yX11_testPlace wvX11_testPlace 6 k n [.int l0I, .int l1I] S (fun v' S'' => ∃ v : Unit, v' = none ∧ Φ v S'' ∧ wkWF S'' ∧ wkExt S S'') (fun E S'' => Ψ E S'' ∧ wkWF S'' ∧ wkExt S S'') := by
  refine wkMetX_of (ret := none) (by decide) rfl (Nat.le_of_ble_eq_true rfl) rfl hex hlt (by decide) (fun X hg C hR E EX ET => ?_)
  subst hg
  have hE : wkExt S S := wkExt.rf
  have hd : 6 ≤ 6 := Nat.le_refl _
  show wkGo l X 2 0 0 0 S [some (.int l0I), some (.int l1I)] []
  unfold rX11_testPlace at h
  refine wk_iload_n C dX11_testPlace_0 rfl rfl ?_
  refine wk_if_lt C (tgt := 9) dX11_testPlace_1 (by decide) (fun c1 => ?_) (fun c1 => ?_)
  · rw [if_pos c1] at h
    obtain ⟨t2a, t2b, h⟩ := h
    exact ET _ _ _ _ _ _ (197, 474, 201, "java/util/NoSuchElementException", "no such place") (by decide +kernel) (Nat.le_of_ble_eq_true rfl) (Or.inr ⟨dX11_testPlace_9, dX11_testPlace_12, dX11_testPlace_13, dX11_testPlace_16, dX11_testPlace_19⟩) ⟨h, hW, hE⟩ t2a t2b
  · rw [if_neg c1] at h
    refine wk_iload_n C dX11_testPlace_4 rfl rfl ?_
    refine wk_iload_n C dX11_testPlace_5 rfl rfl ?_
    refine wk_icmp_lt C (tgt := 20) dX11_testPlace_6 (by decide) (fun c3 => ?_) (fun c3 => ?_)
    · rw [if_pos c3] at h
      exact E _ _ _ _ _ (Nat.zero_le _) (Nat.zero_le _) dX11_testPlace_20 ⟨(), rfl, h, hW, hE⟩
    · rw [if_neg c3] at h
      obtain ⟨t4a, t4b, h⟩ := h
      exact ET _ _ _ _ _ _ (197, 474, 201, "java/util/NoSuchElementException", "no such place") (by decide +kernel) (Nat.le_of_ble_eq_true rfl) (Or.inr ⟨dX11_testPlace_9, dX11_testPlace_12, dX11_testPlace_13, dX11_testPlace_16, dX11_testPlace_19⟩) ⟨h, hW, hE⟩ t4a t4b
def wvX11_testRange : List Cond := .code yX11_testRange cX11_testRange 3 none :: (([] : List Cond) ++ (([]) ++ ([])))
theorem gdX11_testRange : ∀ w ∈ wvX11_testRange, wkGd w := wkGdC rfl (wkGdA (wkGdL (by decide +kernel)) (wkGdA (fun _ h => absurd h List.not_mem_nil) (fun _ h => absurd h List.not_mem_nil)))
def rX11_testRange (F : Nat) (k n : Nat) (l0I : Int32) (l1I : Int32) (l2I : Int32) (S : wPS) (Φ : (Unit → wPS → Prop)) (Ψ : String → wPS → Prop) : Prop :=
  if l0I < l1I then (0 + 1 ≤ k ∧ 0 + 6 ≤ n ∧ Ψ "java/lang/IllegalArgumentException" S) else (if l0I ≤ l2I then (Φ () S) else (0 + 1 ≤ k ∧ 0 + 6 ≤ n ∧ Ψ "java/lang/IllegalArgumentException" S))
set_option maxHeartbeats 4000000 in
set_option maxRecDepth 100000 in
theorem tX11_testRange {l : Launch} {g : wkG} {F : Nat} {k n : Nat}  {S : wPS} {l0I : Int32} {l1I : Int32} {l2I : Int32} {Φ : (Unit → wPS → Prop)} {Ψ : String → wPS → Prop} (hex : wkExA g) (hlt : l.stackTraces = false) (hW : wkWF S)  (h : rX11_testRange F k n l0I l1I l2I S Φ Ψ) : wkMetX l g yX11_testRange wvX11_testRange 6 k n [.int l0I, .int l1I, .int l2I] S (fun v' S'' => ∃ v : Unit, v' = none ∧ Φ v S'' ∧ wkWF S'' ∧ wkExt S S'') (fun E S'' => Ψ E S'' ∧ wkWF S'' ∧ wkExt S S'') := by
  refine wkMetX_of (ret := none) (by decide) rfl (Nat.le_of_ble_eq_true rfl) rfl hex hlt (by decide) (fun X hg C hR E EX ET => ?_)
  subst hg
  have hE : wkExt S S := wkExt.rf
  have hd : 6 ≤ 6 := Nat.le_refl _
  show wkGo l X 3 0 0 0 S [some (.int l0I), some (.int l1I), some (.int l2I)] []
  unfold rX11_testRange at h
  refine wk_iload_n C dX11_testRange_0 rfl rfl ?_
  refine wk_iload_n C dX11_testRange_1 rfl rfl ?_
  refine wk_icmp_lt C (tgt := 10) dX11_testRange_2 (by decide) (fun c1 => ?_) (fun c1 => ?_)
  · rw [if_pos c1] at h
    obtain ⟨t2a, t2b, h⟩ := h
    exact ET _ _ _ _ _ _ (79, 476, 83, "java/lang/IllegalArgumentException", "a number is out of range") (by decide +kernel) (Nat.le_of_ble_eq_true rfl) (Or.inr ⟨dX11_testRange_10, dX11_testRange_13, dX11_testRange_14, dX11_testRange_17, dX11_testRange_20⟩) ⟨h, hW, hE⟩ t2a t2b
  · rw [if_neg c1] at h
    refine wk_iload_n C dX11_testRange_5 rfl rfl ?_
    refine wk_iload_n C dX11_testRange_6 rfl rfl ?_
    refine wk_icmp_le C (tgt := 21) dX11_testRange_7 (by decide) (fun c3 => ?_) (fun c3 => ?_)
    · rw [if_pos c3] at h
      exact E _ _ _ _ _ (Nat.zero_le _) (Nat.zero_le _) dX11_testRange_21 ⟨(), rfl, h, hW, hE⟩
    · rw [if_neg c3] at h
      obtain ⟨t4a, t4b, h⟩ := h
      exact ET _ _ _ _ _ _ (79, 476, 83, "java/lang/IllegalArgumentException", "a number is out of range") (by decide +kernel) (Nat.le_of_ble_eq_true rfl) (Or.inr ⟨dX11_testRange_10, dX11_testRange_13, dX11_testRange_14, dX11_testRange_17, dX11_testRange_20⟩) ⟨h, hW, hE⟩ t4a t4b
def wvX11_tellNumbers : List Cond := .code yX11_tellNumbers cX11_tellNumbers 6 none :: (([.fieldLink RX11 26 "Witnessworks" "told" "[I"] : List Cond) ++ ((wsX110) ++ ([])))
theorem huX11_tellNumbers_11 : ∀ w ∈ u_ws RX11 TX11 19, w ∈ wvX11_tellNumbers := fun w h => List.mem_cons_of_mem _ (List.mem_append_right _ (List.mem_append_left _ h))
theorem gdX11_tellNumbers : ∀ w ∈ wvX11_tellNumbers, wkGd w := wkGdC rfl (wkGdA (wkGdL (by decide +kernel)) (wkGdA gdX11 (fun _ h => absurd h List.not_mem_nil)))
def rX11_tellNumbers (F : Nat) (l0A : Nat) (l1I : Int32) (l2I : Int32) (l3I : Int32) (l4I : Int32) (l5I : Int32) (S : wPS) (Φ : (Unit → wPS → Prop)) : Prop :=
  ¬ ((0 : Int32) < 0 ∨ S.len (wkAd (gWitnessworks_told S l0A)) ≤ ((0 : Int32)).toNatClampNeg) ∧ wkLt (wuI S (wkAd (gWitnessworks_told S l0A)) (0 : Int32) l1I) fun S2 => ¬ ((1 : Int32) < 0 ∨ S2.len (wkAd (gWitnessworks_told S2 l0A)) ≤ ((1 : Int32)).toNatClampNeg) ∧ wkLt (wuI S2 (wkAd (gWitnessworks_told S2 l0A)) (1 : Int32) l2I) fun S4 => ¬ ((2 : Int32) < 0 ∨ S4.len (wkAd (gWitnessworks_told S4 l0A)) ≤ ((2 : Int32)).toNatClampNeg) ∧ wkLt (wuI S4 (wkAd (gWitnessworks_told S4 l0A)) (2 : Int32) l3I) fun S6 => ¬ ((3 : Int32) < 0 ∨ S6.len (wkAd (gWitnessworks_told S6 l0A)) ≤ ((3 : Int32)).toNatClampNeg) ∧ wkLt (wuI S6 (wkAd (gWitnessworks_told S6 l0A)) (3 : Int32) l4I) fun S8 => ¬ ((4 : Int32) < 0 ∨ S8.len (wkAd (gWitnessworks_told S8 l0A)) ≤ ((4 : Int32)).toNatClampNeg) ∧ wkLt (wuI S8 (wkAd (gWitnessworks_told S8 l0A)) (4 : Int32) l5I) fun S10 => Φ () S10
set_option maxHeartbeats 4000000 in
set_option maxRecDepth 100000 in
theorem tX11_tellNumbers {l : Launch} {g : wkG} {F : Nat}  {S : wPS} {l0A : Nat} {l1I : Int32} {l2I : Int32} {l3I : Int32} {l4I : Int32} {l5I : Int32} {Φ : (Unit → wPS → Prop)} (hW : wkWF S) (hl0A : wkIs S l0A 11) (h : rX11_tellNumbers F l0A l1I l2I l3I l4I l5I S Φ) : wkMet l g yX11_tellNumbers wvX11_tellNumbers 0 0 0 [.ref l0A, .int l1I, .int l2I, .int l3I, .int l4I, .int l5I] S (fun v' S'' => ∃ v : Unit, v' = none ∧ Φ v S'' ∧ wkWF S'' ∧ wkExt S S'') := by
  refine wkMet_of (ret := none) (by decide) rfl (Nat.le_of_ble_eq_true rfl) (fun X hg C hR E => ?_)
  subst hg
  have hE : wkExt S S := wkExt.rf
  have hd : 0 ≤ 0 := Nat.le_refl _
  show wkGo l X 6 0 0 0 S [some (.ref l0A), some (.int l1I), some (.int l2I), some (.int l3I), some (.int l4I), some (.int l5I)] []
  unfold rX11_tellNumbers at h
  refine wk_aload_n C dX11_tellNumbers_0 rfl rfl ?_
  refine wk_get C huX11_tellNumbers_11 hl0A.1 (fun cy => wAt_11 cy _ hl0A.2) rfl 4 (by decide) (List.mem_of_getElem? (i := 1) rfl) rfl (congrArg some (congrArg va_rf (wf_Witnessworks_told hW hl0A).1)) dX11_tellNumbers_1 ?_
  refine wk_iconst C (v := 0) dX11_tellNumbers_4 (by decide) ?_
  refine wk_iload_n C dX11_tellNumbers_5 rfl rfl ?_
  obtain ⟨i1, h⟩ := h
  obtain ⟨S2, eS2, h⟩ := wkLt_some h
  refine wk_iast C (wf_Witnessworks_told hW hl0A).2.1 (wf_Witnessworks_told hW hl0A).2.2 i1 eS2.symm dX11_tellNumbers_6 ?_
  have hWS2 : wkWF S2 := by rw [eS2]; exact hW
  have hXS2 : wkExt S S2 := by rw [eS2]; exact wkExt.rf
  refine wk_aload_n C dX11_tellNumbers_7 rfl rfl ?_
  refine wk_get C huX11_tellNumbers_11 (hXS2 _ _ hl0A).1 (fun cy => wAt_11 cy _ (hXS2 _ _ hl0A).2) rfl 4 (by decide) (List.mem_of_getElem? (i := 1) rfl) rfl (congrArg some (congrArg va_rf (wf_Witnessworks_told hWS2 (hXS2 _ _ hl0A)).1)) dX11_tellNumbers_8 ?_
  refine wk_iconst C (v := 1) dX11_tellNumbers_11 (by decide) ?_
  refine wk_iload_n C dX11_tellNumbers_12 rfl rfl ?_
  obtain ⟨i3, h⟩ := h
  obtain ⟨S4, eS4, h⟩ := wkLt_some h
  refine wk_iast C (wf_Witnessworks_told hWS2 (hXS2 _ _ hl0A)).2.1 (wf_Witnessworks_told hWS2 (hXS2 _ _ hl0A)).2.2 i3 eS4.symm dX11_tellNumbers_13 ?_
  have hWS4 : wkWF S4 := by rw [eS4]; exact hWS2
  have hXS4 : wkExt S2 S4 := by rw [eS4]; exact wkExt.rf
  refine wk_aload_n C dX11_tellNumbers_14 rfl rfl ?_
  refine wk_get C huX11_tellNumbers_11 (hXS4 _ _ (hXS2 _ _ hl0A)).1 (fun cy => wAt_11 cy _ (hXS4 _ _ (hXS2 _ _ hl0A)).2) rfl 4 (by decide) (List.mem_of_getElem? (i := 1) rfl) rfl (congrArg some (congrArg va_rf (wf_Witnessworks_told hWS4 (hXS4 _ _ (hXS2 _ _ hl0A))).1)) dX11_tellNumbers_15 ?_
  refine wk_iconst C (v := 2) dX11_tellNumbers_18 (by decide) ?_
  refine wk_iload_n C dX11_tellNumbers_19 rfl rfl ?_
  obtain ⟨i5, h⟩ := h
  obtain ⟨S6, eS6, h⟩ := wkLt_some h
  refine wk_iast C (wf_Witnessworks_told hWS4 (hXS4 _ _ (hXS2 _ _ hl0A))).2.1 (wf_Witnessworks_told hWS4 (hXS4 _ _ (hXS2 _ _ hl0A))).2.2 i5 eS6.symm dX11_tellNumbers_20 ?_
  have hWS6 : wkWF S6 := by rw [eS6]; exact hWS4
  have hXS6 : wkExt S4 S6 := by rw [eS6]; exact wkExt.rf
  refine wk_aload_n C dX11_tellNumbers_21 rfl rfl ?_
  refine wk_get C huX11_tellNumbers_11 (hXS6 _ _ (hXS4 _ _ (hXS2 _ _ hl0A))).1 (fun cy => wAt_11 cy _ (hXS6 _ _ (hXS4 _ _ (hXS2 _ _ hl0A))).2) rfl 4 (by decide) (List.mem_of_getElem? (i := 1) rfl) rfl (congrArg some (congrArg va_rf (wf_Witnessworks_told hWS6 (hXS6 _ _ (hXS4 _ _ (hXS2 _ _ hl0A)))).1)) dX11_tellNumbers_22 ?_
  refine wk_iconst C (v := 3) dX11_tellNumbers_25 (by decide) ?_
  refine wk_iload C dX11_tellNumbers_26 rfl ?_
  obtain ⟨i7, h⟩ := h
  obtain ⟨S8, eS8, h⟩ := wkLt_some h
  refine wk_iast C (wf_Witnessworks_told hWS6 (hXS6 _ _ (hXS4 _ _ (hXS2 _ _ hl0A)))).2.1 (wf_Witnessworks_told hWS6 (hXS6 _ _ (hXS4 _ _ (hXS2 _ _ hl0A)))).2.2 i7 eS8.symm dX11_tellNumbers_28 ?_
  have hWS8 : wkWF S8 := by rw [eS8]; exact hWS6
  have hXS8 : wkExt S6 S8 := by rw [eS8]; exact wkExt.rf
  refine wk_aload_n C dX11_tellNumbers_29 rfl rfl ?_
  refine wk_get C huX11_tellNumbers_11 (hXS8 _ _ (hXS6 _ _ (hXS4 _ _ (hXS2 _ _ hl0A)))).1 (fun cy => wAt_11 cy _ (hXS8 _ _ (hXS6 _ _ (hXS4 _ _ (hXS2 _ _ hl0A)))).2) rfl 4 (by decide) (List.mem_of_getElem? (i := 1) rfl) rfl (congrArg some (congrArg va_rf (wf_Witnessworks_told hWS8 (hXS8 _ _ (hXS6 _ _ (hXS4 _ _ (hXS2 _ _ hl0A))))).1)) dX11_tellNumbers_30 ?_
  refine wk_iconst C (v := 4) dX11_tellNumbers_33 (by decide) ?_
  refine wk_iload C dX11_tellNumbers_34 rfl ?_
  obtain ⟨i9, h⟩ := h
  obtain ⟨S10, eS10, h⟩ := wkLt_some h
  refine wk_iast C (wf_Witnessworks_told hWS8 (hXS8 _ _ (hXS6 _ _ (hXS4 _ _ (hXS2 _ _ hl0A))))).2.1 (wf_Witnessworks_told hWS8 (hXS8 _ _ (hXS6 _ _ (hXS4 _ _ (hXS2 _ _ hl0A))))).2.2 i9 eS10.symm dX11_tellNumbers_36 ?_
  have hWS10 : wkWF S10 := by rw [eS10]; exact hWS8
  have hXS10 : wkExt S8 S10 := by rw [eS10]; exact wkExt.rf
  exact E _ _ _ _ _ (Nat.le_refl 0) (Nat.le_refl 0) dX11_tellNumbers_37 ⟨(), rfl, h, hWS10, (wkExt.tr (wkExt.tr (wkExt.tr (wkExt.tr (wkExt.tr hE hXS2) hXS4) hXS6) hXS8) hXS10)⟩
def wvX11_leadsTo : List Cond := .code yX11_leadsTo cX11_leadsTo 5 (some .boolean) :: (([.fieldLink RX11 18 "Witnessworks" "book" "[LWitnessworks$Entry;", .fieldLink RX11 158 "Witnessworks$Entry" "leaning" "I"] : List Cond) ++ ((wsX110 ++ (wsX30)) ++ ([])))
theorem huX11_leadsTo_11 : ∀ w ∈ u_ws RX11 TX11 19, w ∈ wvX11_leadsTo := fun w h => List.mem_cons_of_mem _ (List.mem_append_right _ (List.mem_append_left _ (List.mem_append_left _ h)))
theorem huX11_leadsTo_3 : ∀ w ∈ u_ws RX3 TX3 17, w ∈ wvX11_leadsTo := fun w h => List.mem_cons_of_mem _ (List.mem_append_right _ (List.mem_append_left _ (List.mem_append_right _ h)))
theorem gdX11_leadsTo : ∀ w ∈ wvX11_leadsTo, wkGd w := wkGdC rfl (wkGdA (wkGdL (by decide +kernel)) (wkGdA (wkGdA gdX11 gdX3) (fun _ h => absurd h List.not_mem_nil)))
def rX11_leadsTo_b0 (F : Nat) (rec : Nat → Nat → Int32 → Int32 → Int32 → wPS → (Int32 → wPS → Prop) → Prop) (l0A : Nat) (l2I : Int32) (l3I : Int32) (l4I : Int32) (S : wPS) (Φ : (Int32 → wPS → Prop)) : Prop :=
  if (12 : Int32) ≤ l4I then (Φ (0 : Int32) S) else (if l3I < 0 then (Φ (0 : Int32) S) else (if l3I = l2I then (Φ (1 : Int32) S) else (¬ (l3I < 0 ∨ S.len (wkAd (gWitnessworks_book S l0A)) ≤ (l3I).toNatClampNeg) ∧ wkLt ((gEntry_leaning S (wkAd (S.rA (wkAd (gWitnessworks_book S l0A)) (l3I).toNatClampNeg)))) fun x6 => wkLt (l4I + (1 : Int32)) fun x7 => rec 0 l0A l2I x6 x7 S Φ)))
def rX11_leadsTo_go (F : Nat) : Nat → Nat → Nat → Int32 → Int32 → Int32 → wPS → (Int32 → wPS → Prop) → Prop
  | 0, _, _, _, _, _, _, _ => False
  | k' + 1, lab, l0A, l2I, l3I, l4I, S, Φ => if lab = 0 then rX11_leadsTo_b0 F (rX11_leadsTo_go F k') l0A l2I l3I l4I S Φ else False
def rX11_leadsTo_s (F : Nat) (rec : Nat → Nat → Int32 → Int32 → Int32 → wPS → (Int32 → wPS → Prop) → Prop) (l0A : Nat) (l1I : Int32) (l2I : Int32) (S : wPS) (Φ : (Int32 → wPS → Prop)) : Prop :=
  rec 0 l0A l2I l1I (0 : Int32) S Φ
def rX11_leadsTo (F : Nat) (l0A : Nat) (l1I : Int32) (l2I : Int32) (S : wPS) (Φ : (Int32 → wPS → Prop)) : Prop := rX11_leadsTo_s F (rX11_leadsTo_go F F) l0A l1I l2I S Φ
set_option maxHeartbeats 4000000 in
set_option maxRecDepth 100000 in
theorem tX11_leadsTo_go {l : Launch} {X : wkX} {d F : Nat} {S0 : wPS} {Φ : (Int32 → wPS → Prop)} (C : wkC X cX11_leadsTo RX11 5 wvX11_leadsTo) (hR : wkRm X d 0 0) (hd : 0 ≤ d) (E : wkEnd l X cX11_leadsTo 5 (some .boolean) 0 0 (fun v' S'' => ∃ v : Int32, v' = some (.int v) ∧ Φ v S'' ∧ wkWF S'' ∧ wkExt S0 S'')) : ∀ k' : Nat, (∀ (l0A : Nat) (l2I : Int32) (l3I : Int32) (l4I : Int32) (S : wPS), wkWF S → wkExt S0 S → wkIs S l0A 11 → rX11_leadsTo_go F k' 0 l0A l2I l3I l4I S Φ → wkGo l X 5 0 0 5 S [some (.ref l0A), none, some (.int l2I), some (.int l3I), some (.int l4I)] []) := by
  intro k'
  induction k' with
  | zero => exact fun l0A l2I l3I l4I S hW hE hl0A h => h.elim
  | succ k' ih =>
    · intro l0A l2I l3I l4I S hW hE hl0A h
      have h : rX11_leadsTo_b0 F (rX11_leadsTo_go F k') l0A l2I l3I l4I S Φ := by
        rw [rX11_leadsTo_go, if_pos (rfl : (0 : Nat) = 0)] at h
        exact h
      unfold rX11_leadsTo_b0 at h
      refine wk_iload C dX11_leadsTo_5 rfl ?_
      refine wk_bipush C (v := 12) dX11_leadsTo_7 (by decide) ?_
      refine wk_icmp_ge C (tgt := 39) dX11_leadsTo_9 (by decide) (fun c1 => ?_) (fun c1 => ?_)
      · rw [if_pos c1] at h
        refine wk_iconst C (v := 0) dX11_leadsTo_39 (by decide) ?_
        exact E _ _ _ _ _ _ (Nat.le_refl 0) (Nat.le_refl 0) dX11_leadsTo_40 rfl ⟨(0 : Int32), rfl, h, hW, hE⟩
      · rw [if_neg c1] at h
        refine wk_iload_n C dX11_leadsTo_12 rfl rfl ?_
        refine wk_if_lt C (tgt := 39) dX11_leadsTo_13 (by decide) (fun c2 => ?_) (fun c2 => ?_)
        · rw [if_pos c2] at h
          refine wk_iconst C (v := 0) dX11_leadsTo_39 (by decide) ?_
          exact E _ _ _ _ _ _ (Nat.le_refl 0) (Nat.le_refl 0) dX11_leadsTo_40 rfl ⟨(0 : Int32), rfl, h, hW, hE⟩
        · rw [if_neg c2] at h
          refine wk_iload_n C dX11_leadsTo_16 rfl rfl ?_
          refine wk_iload_n C dX11_leadsTo_17 rfl rfl ?_
          refine wk_icmp_ne C (tgt := 23) dX11_leadsTo_18 (by decide) (fun c3 => ?_) (fun c3 => ?_)
          · rw [if_neg c3] at h
            refine wk_aload_n C dX11_leadsTo_23 rfl rfl ?_
            refine wk_get C huX11_leadsTo_11 hl0A.1 (fun cy => wAt_11 cy _ hl0A.2) rfl 1 (by decide) (List.mem_of_getElem? (i := 1) rfl) rfl (congrArg some (congrArg va_rf (wf_Witnessworks_book hW hl0A).1)) dX11_leadsTo_24 ?_
            refine wk_iload_n C dX11_leadsTo_27 rfl rfl ?_
            obtain ⟨i4, h⟩ := h
            have w5 := wf_REntry hW (wf_Witnessworks_book hW hl0A).2 (Nat.not_le.mp fun q => i4 (Or.inr q))
            refine wk_aaldEntry C (wf_Witnessworks_book hW hl0A).2.1 (wf_Witnessworks_book hW hl0A).2.2 i4 w5.1 dX11_leadsTo_28 ?_
            refine wk_get C (v := .int (gEntry_leaning S (wkAd (S.rA (wkAd (gWitnessworks_book S l0A)) (l3I).toNatClampNeg)))) huX11_leadsTo_3 w5.2.1 (fun cy => wAt_3 cy _ w5.2.2) rfl 3 (by decide) (List.mem_of_getElem? (i := 2) rfl) rfl rfl dX11_leadsTo_29 ?_
            obtain ⟨x6, ex6, h⟩ := wkLt_some h
            refine wk_topi ex6 ?_
            refine wk_istore_n C (lv' := [some (.ref l0A), none, some (.int l2I), some (.int x6), some (.int l4I)]) dX11_leadsTo_32 rfl (by decide) rfl ?_
            obtain ⟨x7, ex7, h⟩ := wkLt_some h
            refine wk_iinc C (lv' := [some (.ref l0A), none, some (.int l2I), some (.int x6), some (.int x7)]) dX11_leadsTo_33 rfl (by rw [ex7]; rfl) (by decide) rfl ?_
            refine wk_goto C (tgt := 5) dX11_leadsTo_36 (by decide) ?_
            exact wk_forget (lv' := [some (.ref l0A), none, some (.int l2I), some (.int x6), some (.int x7)]) (wkLs.le ⟨rfl, rfl, rfl, rfl, trivial⟩) (ih _ _ _ _ _ hW hE hl0A h)
          · rw [if_pos c3] at h
            refine wk_iconst C (v := 1) dX11_leadsTo_21 (by decide) ?_
            exact E _ _ _ _ _ _ (Nat.le_refl 0) (Nat.le_refl 0) dX11_leadsTo_22 rfl ⟨(1 : Int32), rfl, h, hW, hE⟩
set_option maxHeartbeats 4000000 in
set_option maxRecDepth 100000 in
theorem tX11_leadsTo {l : Launch} {g : wkG} {F : Nat}  {S : wPS} {l0A : Nat} {l1I : Int32} {l2I : Int32} {Φ : (Int32 → wPS → Prop)} (hW : wkWF S) (hl0A : wkIs S l0A 11) (h : rX11_leadsTo F l0A l1I l2I S Φ) : wkMet l g yX11_leadsTo wvX11_leadsTo 0 0 0 [.ref l0A, .int l1I, .int l2I] S (fun v' S'' => ∃ v : Int32, v' = some (.int v) ∧ Φ v S'' ∧ wkWF S'' ∧ wkExt S S'') := by
  refine wkMet_of (ret := (some .boolean)) (by decide) rfl (Nat.le_of_ble_eq_true rfl) (fun X hg C hR E => ?_)
  subst hg
  have hE : wkExt S S := wkExt.rf
  have hd : 0 ≤ 0 := Nat.le_refl _
  show wkGo l X 5 0 0 0 S [some (.ref l0A), some (.int l1I), some (.int l2I), none, none] []
  have ih := tX11_leadsTo_go (F := F) C hR hd E F
  have h : rX11_leadsTo_s F (rX11_leadsTo_go F F) l0A l1I l2I S Φ := h
  unfold rX11_leadsTo_s at h
  refine wk_iload_n C dX11_leadsTo_0 rfl rfl ?_
  refine wk_istore_n C (lv' := [some (.ref l0A), some (.int l1I), some (.int l2I), some (.int l1I), none]) dX11_leadsTo_1 rfl (by decide) rfl ?_
  refine wk_iconst C (v := 0) dX11_leadsTo_2 (by decide) ?_
  refine wk_istore C (lv' := [some (.ref l0A), some (.int l1I), some (.int l2I), some (.int l1I), some (.int (0 : Int32))]) dX11_leadsTo_3 (by decide) rfl ?_
  exact wk_forget (lv' := [some (.ref l0A), none, some (.int l2I), some (.int l1I), some (.int (0 : Int32))]) (wkLs.le ⟨rfl, rfl, rfl, rfl, trivial⟩) (ih _ _ _ _ _ hW hE hl0A h)
def wvX11_remember : List Cond := .code yX11_remember cX11_remember 4 none :: (([.fieldLink RX11 202 "Witnessworks" "firstChange" "I", .fieldLink RX11 194 "Witnessworks" "changeCount" "I", .fieldLink RX11 37 "Witnessworks" "changeLetters" "[C", .fieldLink RX11 41 "Witnessworks" "changedEntries" "[I", .fieldLink RX11 34 "Witnessworks" "before" "[LWitnessworks$Entry;", .fieldLink RX11 18 "Witnessworks" "book" "[LWitnessworks$Entry;", .methodLink RX11 187 yX3_copyQuestion, .instanceMethod yX3_copyQuestion, .selects RX3 yX3_copyQuestion yX3_copyQuestion, .initialized RX3] : List Cond) ++ ((wsX110) ++ (wvX3_copyQuestion)))
theorem huX11_remember_11 : ∀ w ∈ u_ws RX11 TX11 19, w ∈ wvX11_remember := fun w h => List.mem_cons_of_mem _ (List.mem_append_right _ (List.mem_append_left _ h))
theorem hbX11_remember_X3_copyQuestion : ∀ w ∈ wvX3_copyQuestion, w ∈ wvX11_remember := fun w h => List.mem_cons_of_mem _ (List.mem_append_right _ (List.mem_append_right _ h))
theorem gdX11_remember : ∀ w ∈ wvX11_remember, wkGd w := wkGdC rfl (wkGdA (wkGdL (by decide +kernel)) (wkGdA gdX11 gdX3_copyQuestion))
def rX11_remember_b0 (F : Nat) (rec : Nat → Nat → Int32 → Int32 → wPS → (Unit → wPS → Prop) → Prop) (l0A : Nat) (l1I : Int32) (l2I : Int32) (S : wPS) (Φ : (Unit → wPS → Prop)) : Prop :=
  wkLt ((((gWitnessworks_firstChange S l0A) + (gWitnessworks_changeCount S l0A)) - ((gWitnessworks_firstChange S l0A) + (gWitnessworks_changeCount S l0A)) / (24 : Int32) * (24 : Int32))) fun x1 => ¬ (x1 < 0 ∨ S.len (wkAd (gWitnessworks_changeLetters S l0A)) ≤ (x1).toNatClampNeg) ∧ ((l1I : Int32).toUInt32 % 65536).toInt32 = l1I ∧ wkLt (wuI S (wkAd (gWitnessworks_changeLetters S l0A)) x1 l1I) fun S3 => ¬ (x1 < 0 ∨ S3.len (wkAd (gWitnessworks_changedEntries S3 l0A)) ≤ (x1).toNatClampNeg) ∧ wkLt (wuI S3 (wkAd (gWitnessworks_changedEntries S3 l0A)) x1 l2I) fun S6 => ¬ (x1 < 0 ∨ S6.len (wkAd (gWitnessworks_before S6 l0A)) ≤ (x1).toNatClampNeg) ∧ ¬ (l2I < 0 ∨ S6.len (wkAd (gWitnessworks_book S6 l0A)) ≤ (l2I).toNatClampNeg) ∧ rX3_copyQuestion F (wkAd (S6.rA (wkAd (gWitnessworks_before S6 l0A)) (x1).toNatClampNeg)) (wkAd (S6.rA (wkAd (gWitnessworks_book S6 l0A)) (l2I).toNatClampNeg)) S6 fun v11 S12 => wkLt (wu_Witnessworks_changeCount S12 l0A ((gWitnessworks_changeCount S12 l0A) + (1 : Int32))) fun S16 => Φ () S16
def rX11_remember_go (F : Nat) : Nat → Nat → Nat → Int32 → Int32 → wPS → (Unit → wPS → Prop) → Prop
  | 0, _, _, _, _, _, _ => False
  | k' + 1, lab, l0A, l1I, l2I, S, Φ => if lab = 0 then rX11_remember_b0 F (rX11_remember_go F k') l0A l1I l2I S Φ else False
def rX11_remember_s (F : Nat) (rec : Nat → Nat → Int32 → Int32 → wPS → (Unit → wPS → Prop) → Prop) (l0A : Nat) (l1I : Int32) (l2I : Int32) (S : wPS) (Φ : (Unit → wPS → Prop)) : Prop :=
  if (gWitnessworks_changeCount S l0A) = (24 : Int32) then (wkLt (wu_Witnessworks_firstChange S l0A (((gWitnessworks_firstChange S l0A) + (1 : Int32)) - ((gWitnessworks_firstChange S l0A) + (1 : Int32)) / (24 : Int32) * (24 : Int32))) fun S18 => wkLt (wu_Witnessworks_changeCount S18 l0A ((gWitnessworks_changeCount S18 l0A) - (1 : Int32))) fun S19 => rec 0 l0A l1I l2I S19 Φ) else (rec 0 l0A l1I l2I S Φ)
def rX11_remember (F : Nat) (l0A : Nat) (l1I : Int32) (l2I : Int32) (S : wPS) (Φ : (Unit → wPS → Prop)) : Prop := rX11_remember_s F (rX11_remember_go F F) l0A l1I l2I S Φ
set_option maxHeartbeats 4000000 in
set_option maxRecDepth 100000 in
theorem tX11_remember_go {l : Launch} {X : wkX} {d F : Nat} {S0 : wPS} {Φ : (Unit → wPS → Prop)} (C : wkC X cX11_remember RX11 4 wvX11_remember) (hR : wkRm X d 0 0) (hd : 2 ≤ d) (E : wkEnd l X cX11_remember 4 none 0 0 (fun v' S'' => ∃ v : Unit, v' = none ∧ Φ v S'' ∧ wkWF S'' ∧ wkExt S0 S'')) : ∀ k' : Nat, (∀ (l0A : Nat) (l1I : Int32) (l2I : Int32) (S : wPS), wkWF S → wkExt S0 S → wkIs S l0A 11 → rX11_remember_go F k' 0 l0A l1I l2I S Φ → wkGo l X 4 0 0 32 S [some (.ref l0A), some (.int l1I), some (.int l2I), none] []) := by
  intro k'
  induction k' with
  | zero => exact fun l0A l1I l2I S hW hE hl0A h => h.elim
  | succ k' ih =>
    · intro l0A l1I l2I S hW hE hl0A h
      have h : rX11_remember_b0 F (rX11_remember_go F k') l0A l1I l2I S Φ := by
        rw [rX11_remember_go, if_pos (rfl : (0 : Nat) = 0)] at h
        exact h
      unfold rX11_remember_b0 at h
      refine wk_aload_n C dX11_remember_32 rfl rfl ?_
      refine wk_get C (v := .int (gWitnessworks_firstChange S l0A)) huX11_remember_11 hl0A.1 (fun cy => wAt_11 cy _ hl0A.2) rfl 9 (by decide) (List.mem_of_getElem? (i := 1) rfl) rfl rfl dX11_remember_33 ?_
      refine wk_aload_n C dX11_remember_36 rfl rfl ?_
      refine wk_get C (v := .int (gWitnessworks_changeCount S l0A)) huX11_remember_11 hl0A.1 (fun cy => wAt_11 cy _ hl0A.2) rfl 10 (by decide) (List.mem_of_getElem? (i := 2) rfl) rfl rfl dX11_remember_37 ?_
      refine wk_iadd C dX11_remember_40 rfl ?_
      refine wk_bipush C (v := 24) dX11_remember_41 (by decide) ?_
      refine wk_irem C dX11_remember_43 (by decide) rfl ?_
      obtain ⟨x1, ex1, h⟩ := wkLt_some h
      refine wk_topi ex1 ?_
      refine wk_istore_n C (lv' := [some (.ref l0A), some (.int l1I), some (.int l2I), some (.int x1)]) dX11_remember_44 rfl (by decide) rfl ?_
      refine wk_aload_n C dX11_remember_45 rfl rfl ?_
      refine wk_get C huX11_remember_11 hl0A.1 (fun cy => wAt_11 cy _ hl0A.2) rfl 7 (by decide) (List.mem_of_getElem? (i := 3) rfl) rfl (congrArg some (congrArg va_rf (wf_Witnessworks_changeLetters hW hl0A).1)) dX11_remember_46 ?_
      refine wk_iload_n C dX11_remember_49 rfl rfl ?_
      refine wk_iload_n C dX11_remember_50 rfl rfl ?_
      obtain ⟨i2, b4, h⟩ := h
      obtain ⟨S3, eS3, h⟩ := wkLt_some h
      refine wk_cast C (wf_Witnessworks_changeLetters hW hl0A).2.1 (wf_Witnessworks_changeLetters hW hl0A).2.2 i2 (wkNarC2 b4) eS3.symm dX11_remember_51 ?_
      have hWS3 : wkWF S3 := by rw [eS3]; exact hW
      have hXS3 : wkExt S S3 := by rw [eS3]; exact wkExt.rf
      refine wk_aload_n C dX11_remember_52 rfl rfl ?_
      refine wk_get C huX11_remember_11 (hXS3 _ _ hl0A).1 (fun cy => wAt_11 cy _ (hXS3 _ _ hl0A).2) rfl 8 (by decide) (List.mem_of_getElem? (i := 4) rfl) rfl (congrArg some (congrArg va_rf (wf_Witnessworks_changedEntries hWS3 (hXS3 _ _ hl0A)).1)) dX11_remember_53 ?_
      refine wk_iload_n C dX11_remember_56 rfl rfl ?_
      refine wk_iload_n C dX11_remember_57 rfl rfl ?_
      obtain ⟨i5, h⟩ := h
      obtain ⟨S6, eS6, h⟩ := wkLt_some h
      refine wk_iast C (wf_Witnessworks_changedEntries hWS3 (hXS3 _ _ hl0A)).2.1 (wf_Witnessworks_changedEntries hWS3 (hXS3 _ _ hl0A)).2.2 i5 eS6.symm dX11_remember_58 ?_
      have hWS6 : wkWF S6 := by rw [eS6]; exact hWS3
      have hXS6 : wkExt S3 S6 := by rw [eS6]; exact wkExt.rf
      refine wk_aload_n C dX11_remember_59 rfl rfl ?_
      refine wk_get C huX11_remember_11 (hXS6 _ _ (hXS3 _ _ hl0A)).1 (fun cy => wAt_11 cy _ (hXS6 _ _ (hXS3 _ _ hl0A)).2) rfl 6 (by decide) (List.mem_of_getElem? (i := 5) rfl) rfl (congrArg some (congrArg va_rf (wf_Witnessworks_before hWS6 (hXS6 _ _ (hXS3 _ _ hl0A))).1)) dX11_remember_60 ?_
      refine wk_iload_n C dX11_remember_63 rfl rfl ?_
      obtain ⟨i7, h⟩ := h
      have w8 := wf_REntry hWS6 (wf_Witnessworks_before hWS6 (hXS6 _ _ (hXS3 _ _ hl0A))).2 (Nat.not_le.mp fun q => i7 (Or.inr q))
      refine wk_aaldEntry C (wf_Witnessworks_before hWS6 (hXS6 _ _ (hXS3 _ _ hl0A))).2.1 (wf_Witnessworks_before hWS6 (hXS6 _ _ (hXS3 _ _ hl0A))).2.2 i7 w8.1 dX11_remember_64 ?_
      refine wk_aload_n C dX11_remember_65 rfl rfl ?_
      refine wk_get C huX11_remember_11 (hXS6 _ _ (hXS3 _ _ hl0A)).1 (fun cy => wAt_11 cy _ (hXS6 _ _ (hXS3 _ _ hl0A)).2) rfl 1 (by decide) (List.mem_of_getElem? (i := 6) rfl) rfl (congrArg some (congrArg va_rf (wf_Witnessworks_book hWS6 (hXS6 _ _ (hXS3 _ _ hl0A))).1)) dX11_remember_66 ?_
      refine wk_iload_n C dX11_remember_69 rfl rfl ?_
      obtain ⟨i9, h⟩ := h
      have w10 := wf_REntry hWS6 (wf_Witnessworks_book hWS6 (hXS6 _ _ (hXS3 _ _ hl0A))).2 (Nat.not_le.mp fun q => i9 (Or.inr q))
      refine wk_aaldEntry C (wf_Witnessworks_book hWS6 (hXS6 _ _ (hXS3 _ _ hl0A))).2.1 (wf_Witnessworks_book hWS6 (hXS6 _ _ (hXS3 _ _ hl0A))).2.2 i9 w10.1 dX11_remember_70 ?_
      refine wk_callV C hR (As := [.ref (wkAd (S6.rA (wkAd (gWitnessworks_book S6 l0A)) (l2I).toNatClampNeg))]) (cnt := 1) (tX3_copyQuestion (l := l) hWS6 w8.2 w10.2 h) rfl (wkGoodV (List.mem_of_getElem? (i := 7) rfl) (List.mem_of_getElem? (i := 8) rfl) (List.mem_of_getElem? (i := 9) rfl) (List.mem_of_getElem? (i := 10) rfl) hbX11_remember_X3_copyQuestion gdX3_copyQuestion) (Nat.le_trans (by decide : 1 + 1 ≤ 2) hd) (by decide) w8.2.1 (fun cy => wAt_3 cy _ w8.2.2) rfl ⟨by decide, by decide, by decide +kernel⟩ rfl rfl (Nat.le_of_ble_eq_true rfl) (Nat.le_refl 0) (Nat.le_refl 0) dX11_remember_71 (fun v' S12 hp => ?_)
      obtain ⟨v11, rfl, h, hWS12, hXS12⟩ := hp
      refine wk_aload_n C dX11_remember_74 rfl rfl ?_
      refine wk_dup C dX11_remember_75 rfl ?_
      refine wk_get C (v := .int (gWitnessworks_changeCount S12 l0A)) huX11_remember_11 (hXS12 _ _ (hXS6 _ _ (hXS3 _ _ hl0A))).1 (fun cy => wAt_11 cy _ (hXS12 _ _ (hXS6 _ _ (hXS3 _ _ hl0A))).2) rfl 10 (by decide) (List.mem_of_getElem? (i := 2) rfl) rfl rfl dX11_remember_76 ?_
      refine wk_iconst C (v := 1) dX11_remember_79 (by decide) ?_
      refine wk_iadd C dX11_remember_80 rfl ?_
      obtain ⟨S16, eS16, h⟩ := wkLt_some h
      refine wk_put C (S' := S16) huX11_remember_11 (hXS12 _ _ (hXS6 _ _ (hXS3 _ _ hl0A))).1 (fun cy => wAt_11 cy _ (hXS12 _ _ (hXS6 _ _ (hXS3 _ _ hl0A))).2) rfl 10 (by decide) (List.mem_of_getElem? (i := 2) rfl) rfl tyX11_ok nmX11 rfl (ty := .int) rfl rfl rfl (by show 10 < 19; decide) (fun cy b => by rw [eS16]; exact wSt_11_10 cy _ (hXS12 _ _ (hXS6 _ _ (hXS3 _ _ hl0A))).2 _ b) (by rw [eS16]) dX11_remember_81 ?_
      have hWS16 : wkWF S16 := by rw [eS16]; exact hWS12
      have hXS16 : wkExt S12 S16 := by rw [eS16]; exact wkExt.rf
      exact E _ _ _ _ _ (Nat.le_refl 0) (Nat.le_refl 0) dX11_remember_84 ⟨(), rfl, h, hWS16, (wkExt.tr (wkExt.tr (wkExt.tr (wkExt.tr hE hXS3) hXS6) hXS12) hXS16)⟩
set_option maxHeartbeats 4000000 in
set_option maxRecDepth 100000 in
theorem tX11_remember {l : Launch} {g : wkG} {F : Nat}  {S : wPS} {l0A : Nat} {l1I : Int32} {l2I : Int32} {Φ : (Unit → wPS → Prop)} (hW : wkWF S) (hl0A : wkIs S l0A 11) (h : rX11_remember F l0A l1I l2I S Φ) : wkMet l g yX11_remember wvX11_remember 2 0 0 [.ref l0A, .int l1I, .int l2I] S (fun v' S'' => ∃ v : Unit, v' = none ∧ Φ v S'' ∧ wkWF S'' ∧ wkExt S S'') := by
  refine wkMet_of (ret := none) (by decide) rfl (Nat.le_of_ble_eq_true rfl) (fun X hg C hR E => ?_)
  subst hg
  have hE : wkExt S S := wkExt.rf
  have hd : 2 ≤ 2 := Nat.le_refl _
  show wkGo l X 4 0 0 0 S [some (.ref l0A), some (.int l1I), some (.int l2I), none] []
  have ih := tX11_remember_go (F := F) C hR hd E F
  have h : rX11_remember_s F (rX11_remember_go F F) l0A l1I l2I S Φ := h
  unfold rX11_remember_s at h
  refine wk_aload_n C dX11_remember_0 rfl rfl ?_
  refine wk_get C (v := .int (gWitnessworks_changeCount S l0A)) huX11_remember_11 hl0A.1 (fun cy => wAt_11 cy _ hl0A.2) rfl 10 (by decide) (List.mem_of_getElem? (i := 2) rfl) rfl rfl dX11_remember_1 ?_
  refine wk_bipush C (v := 24) dX11_remember_4 (by decide) ?_
  refine wk_icmp_ne C (tgt := 32) dX11_remember_6 (by decide) (fun c17 => ?_) (fun c17 => ?_)
  · rw [if_neg c17] at h
    exact wk_forget (lv' := [some (.ref l0A), some (.int l1I), some (.int l2I), none]) (wkLs.le ⟨rfl, rfl, rfl, trivial⟩) (ih _ _ _ _ hW hE hl0A h)
  · rw [if_pos c17] at h
    refine wk_aload_n C dX11_remember_9 rfl rfl ?_
    refine wk_aload_n C dX11_remember_10 rfl rfl ?_
    refine wk_get C (v := .int (gWitnessworks_firstChange S l0A)) huX11_remember_11 hl0A.1 (fun cy => wAt_11 cy _ hl0A.2) rfl 9 (by decide) (List.mem_of_getElem? (i := 1) rfl) rfl rfl dX11_remember_11 ?_
    refine wk_iconst C (v := 1) dX11_remember_14 (by decide) ?_
    refine wk_iadd C dX11_remember_15 rfl ?_
    refine wk_bipush C (v := 24) dX11_remember_16 (by decide) ?_
    refine wk_irem C dX11_remember_18 (by decide) rfl ?_
    obtain ⟨S18, eS18, h⟩ := wkLt_some h
    refine wk_put C (S' := S18) huX11_remember_11 hl0A.1 (fun cy => wAt_11 cy _ hl0A.2) rfl 9 (by decide) (List.mem_of_getElem? (i := 1) rfl) rfl tyX11_ok nmX11 rfl (ty := .int) rfl rfl rfl (by show 9 < 19; decide) (fun cy b => by rw [eS18]; exact wSt_11_9 cy _ hl0A.2 _ b) (by rw [eS18]) dX11_remember_19 ?_
    have hWS18 : wkWF S18 := by rw [eS18]; exact hW
    have hXS18 : wkExt S S18 := by rw [eS18]; exact wkExt.rf
    refine wk_aload_n C dX11_remember_22 rfl rfl ?_
    refine wk_dup C dX11_remember_23 rfl ?_
    refine wk_get C (v := .int (gWitnessworks_changeCount S18 l0A)) huX11_remember_11 (hXS18 _ _ hl0A).1 (fun cy => wAt_11 cy _ (hXS18 _ _ hl0A).2) rfl 10 (by decide) (List.mem_of_getElem? (i := 2) rfl) rfl rfl dX11_remember_24 ?_
    refine wk_iconst C (v := 1) dX11_remember_27 (by decide) ?_
    refine wk_isub C dX11_remember_28 rfl ?_
    obtain ⟨S19, eS19, h⟩ := wkLt_some h
    refine wk_put C (S' := S19) huX11_remember_11 (hXS18 _ _ hl0A).1 (fun cy => wAt_11 cy _ (hXS18 _ _ hl0A).2) rfl 10 (by decide) (List.mem_of_getElem? (i := 2) rfl) rfl tyX11_ok nmX11 rfl (ty := .int) rfl rfl rfl (by show 10 < 19; decide) (fun cy b => by rw [eS19]; exact wSt_11_10 cy _ (hXS18 _ _ hl0A).2 _ b) (by rw [eS19]) dX11_remember_29 ?_
    have hWS19 : wkWF S19 := by rw [eS19]; exact hWS18
    have hXS19 : wkExt S18 S19 := by rw [eS19]; exact wkExt.rf
    exact wk_forget (lv' := [some (.ref l0A), some (.int l1I), some (.int l2I), none]) (wkLs.le ⟨rfl, rfl, rfl, trivial⟩) (ih _ _ _ _ hWS19 (wkExt.tr (wkExt.tr hE hXS18) hXS19) (hXS19 _ _ (hXS18 _ _ hl0A)) h)
