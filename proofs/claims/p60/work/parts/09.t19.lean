def wvX10_beyondWords : List Cond := .code yX10_beyondWords cX10_beyondWords 1 (some .int) :: (([.fieldLink RX10 72 "Witnessworks$Entry" "boundNow" "I"] : List Cond) ++ ((wsX30) ++ ([])))
theorem huX10_beyondWords_3 : ∀ w ∈ u_ws RX3 TX3 17, w ∈ wvX10_beyondWords := fun w h => List.mem_cons_of_mem _ (List.mem_append_right _ (List.mem_append_left _ h))
theorem gdX10_beyondWords : ∀ w ∈ wvX10_beyondWords, wkGd w := wkGdC rfl (wkGdA (wkGdL (by decide +kernel)) (wkGdA gdX3 (fun _ h => absurd h List.not_mem_nil)))
def rX10_beyondWords (F : Nat) (l0A : Nat) (S : wPS) (Φ : (Int32 → wPS → Prop)) : Prop :=
  Φ ((2 : Int32) <<< ((gEntry_boundNow S l0A) &&& 31)) S
set_option maxHeartbeats 4000000 in
set_option maxRecDepth 100000 in
theorem tX10_beyondWords {l : Launch} {g : wkG} {F : Nat}  {S : wPS} {l0A : Nat} {Φ : (Int32 → wPS → Prop)} (hW : wkWF S) (hl0A : wkIs S l0A 3) (h : rX10_beyondWords F l0A S Φ) : wkMet l g yX10_beyondWords wvX10_beyondWords 0 0 0 [.ref l0A] S (fun v' S'' => ∃ v : Int32, v' = some (.int v) ∧ Φ v S'' ∧ wkWF S'' ∧ wkExt S S'') := by
  refine wkMet_of (ret := (some .int)) (by decide) rfl (Nat.le_of_ble_eq_true rfl) (fun X hg C hR E => ?_)
  subst hg
  have hE : wkExt S S := wkExt.rf
  have hd : 0 ≤ 0 := Nat.le_refl _
  show wkGo l X 1 0 0 0 S [some (.ref l0A)] []
  unfold rX10_beyondWords at h
  refine wk_iconst C (v := 2) dX10_beyondWords_0 (by decide) ?_
  refine wk_aload_n C dX10_beyondWords_1 rfl rfl ?_
  refine wk_get C (v := .int (gEntry_boundNow S l0A)) huX10_beyondWords_3 hl0A.1 (fun cy => wAt_3 cy _ hl0A.2) rfl 8 (by decide) (List.mem_of_getElem? (i := 1) rfl) rfl rfl dX10_beyondWords_2 ?_
  refine wk_ishl C dX10_beyondWords_5 rfl ?_
  exact E _ _ _ _ _ _ (Nat.le_refl 0) (Nat.le_refl 0) dX10_beyondWords_6 ⟨((2 : Int32) <<< ((gEntry_boundNow S l0A) &&& 31)), rfl, h, hW, hE⟩
def wvX10_addNext : List Cond := .code yX10_addNext cX10_addNext 2 none :: (([.fieldLink RX10 187 "Witnessworks$Words" "nextCount" "I", .fieldLink RX10 38 "Witnessworks$Words" "next" "[I"] : List Cond) ++ ((wsX100) ++ ([])))
theorem huX10_addNext_10 : ∀ w ∈ u_ws RX10 TX10 12, w ∈ wvX10_addNext := fun w h => List.mem_cons_of_mem _ (List.mem_append_right _ (List.mem_append_left _ h))
theorem gdX10_addNext : ∀ w ∈ wvX10_addNext, wkGd w := wkGdC rfl (wkGdA (wkGdL (by decide +kernel)) (wkGdA gdX10 (fun _ h => absurd h List.not_mem_nil)))
def rX10_addNext (F : Nat) (l0A : Nat) (l1I : Int32) (S : wPS) (Φ : (Unit → wPS → Prop)) : Prop :=
  if (96 : Int32) ≤ (gWords_nextCount S l0A) then (Φ () S) else (if l1I < (1 : Int32) then (Φ () S) else (if (256 : Int32) ≤ l1I then (Φ () S) else (¬ ((gWords_nextCount S l0A) < 0 ∨ S.len (wkAd (gWords_next S l0A)) ≤ ((gWords_nextCount S l0A)).toNatClampNeg) ∧ wkLt (wuI S (wkAd (gWords_next S l0A)) (gWords_nextCount S l0A) l1I) fun S5 => wkLt (wu_Words_nextCount S5 l0A ((gWords_nextCount S5 l0A) + (1 : Int32))) fun S6 => Φ () S6)))
set_option maxHeartbeats 4000000 in
set_option maxRecDepth 100000 in
theorem tX10_addNext {l : Launch} {g : wkG} {F : Nat}  {S : wPS} {l0A : Nat} {l1I : Int32} {Φ : (Unit → wPS → Prop)} (hW : wkWF S) (hl0A : wkIs S l0A 10) (h : rX10_addNext F l0A l1I S Φ) : wkMet l g yX10_addNext wvX10_addNext 0 0 0 [.ref l0A, .int l1I] S (fun v' S'' => ∃ v : Unit, v' = none ∧ Φ v S'' ∧ wkWF S'' ∧ wkExt S S'') := by
  refine wkMet_of (ret := none) (by decide) rfl (Nat.le_of_ble_eq_true rfl) (fun X hg C hR E => ?_)
  subst hg
  have hE : wkExt S S := wkExt.rf
  have hd : 0 ≤ 0 := Nat.le_refl _
  show wkGo l X 2 0 0 0 S [some (.ref l0A), some (.int l1I)] []
  unfold rX10_addNext at h
  refine wk_aload_n C dX10_addNext_0 rfl rfl ?_
  refine wk_get C (v := .int (gWords_nextCount S l0A)) huX10_addNext_10 hl0A.1 (fun cy => wAt_10 cy _ hl0A.2) rfl 9 (by decide) (List.mem_of_getElem? (i := 1) rfl) rfl rfl dX10_addNext_1 ?_
  refine wk_bipush C (v := 96) dX10_addNext_4 (by decide) ?_
  refine wk_icmp_ge C (tgt := 41) dX10_addNext_6 (by decide) (fun c1 => ?_) (fun c1 => ?_)
  · rw [if_pos c1] at h
    exact E _ _ _ _ _ (Nat.le_refl 0) (Nat.le_refl 0) dX10_addNext_41 ⟨(), rfl, h, hW, hE⟩
  · rw [if_neg c1] at h
    refine wk_iload_n C dX10_addNext_9 rfl rfl ?_
    refine wk_iconst C (v := 1) dX10_addNext_10 (by decide) ?_
    refine wk_icmp_lt C (tgt := 41) dX10_addNext_11 (by decide) (fun c2 => ?_) (fun c2 => ?_)
    · rw [if_pos c2] at h
      exact E _ _ _ _ _ (Nat.le_refl 0) (Nat.le_refl 0) dX10_addNext_41 ⟨(), rfl, h, hW, hE⟩
    · rw [if_neg c2] at h
      refine wk_iload_n C dX10_addNext_14 rfl rfl ?_
      refine wk_sipush C (v := 256) dX10_addNext_15 (by decide) ?_
      refine wk_icmp_ge C (tgt := 41) dX10_addNext_18 (by decide) (fun c3 => ?_) (fun c3 => ?_)
      · rw [if_pos c3] at h
        exact E _ _ _ _ _ (Nat.le_refl 0) (Nat.le_refl 0) dX10_addNext_41 ⟨(), rfl, h, hW, hE⟩
      · rw [if_neg c3] at h
        refine wk_aload_n C dX10_addNext_21 rfl rfl ?_
        refine wk_get C huX10_addNext_10 hl0A.1 (fun cy => wAt_10 cy _ hl0A.2) rfl 8 (by decide) (List.mem_of_getElem? (i := 2) rfl) rfl (congrArg some (congrArg va_rf (wf_Words_next hW hl0A).1)) dX10_addNext_22 ?_
        refine wk_aload_n C dX10_addNext_25 rfl rfl ?_
        refine wk_get C (v := .int (gWords_nextCount S l0A)) huX10_addNext_10 hl0A.1 (fun cy => wAt_10 cy _ hl0A.2) rfl 9 (by decide) (List.mem_of_getElem? (i := 1) rfl) rfl rfl dX10_addNext_26 ?_
        refine wk_iload_n C dX10_addNext_29 rfl rfl ?_
        obtain ⟨i4, h⟩ := h
        obtain ⟨S5, eS5, h⟩ := wkLt_some h
        refine wk_iast C (wf_Words_next hW hl0A).2.1 (wf_Words_next hW hl0A).2.2 i4 eS5.symm dX10_addNext_30 ?_
        have hWS5 : wkWF S5 := by rw [eS5]; exact hW
        have hXS5 : wkExt S S5 := by rw [eS5]; exact wkExt.rf
        refine wk_aload_n C dX10_addNext_31 rfl rfl ?_
        refine wk_dup C dX10_addNext_32 rfl ?_
        refine wk_get C (v := .int (gWords_nextCount S5 l0A)) huX10_addNext_10 (hXS5 _ _ hl0A).1 (fun cy => wAt_10 cy _ (hXS5 _ _ hl0A).2) rfl 9 (by decide) (List.mem_of_getElem? (i := 1) rfl) rfl rfl dX10_addNext_33 ?_
        refine wk_iconst C (v := 1) dX10_addNext_36 (by decide) ?_
        refine wk_iadd C dX10_addNext_37 rfl ?_
        obtain ⟨S6, eS6, h⟩ := wkLt_some h
        refine wk_put C (S' := S6) huX10_addNext_10 (hXS5 _ _ hl0A).1 (fun cy => wAt_10 cy _ (hXS5 _ _ hl0A).2) rfl 9 (by decide) (List.mem_of_getElem? (i := 1) rfl) rfl tyX10_ok nmX10 rfl (ty := .int) rfl rfl rfl (by show 9 < 12; decide) (fun cy b => by rw [eS6]; exact wSt_10_9 cy _ (hXS5 _ _ hl0A).2 _ b) (by rw [eS6]) dX10_addNext_38 ?_
        have hWS6 : wkWF S6 := by rw [eS6]; exact hWS5
        have hXS6 : wkExt S5 S6 := by rw [eS6]; exact wkExt.rf
        exact E _ _ _ _ _ (Nat.le_refl 0) (Nat.le_refl 0) dX10_addNext_41 ⟨(), rfl, h, hWS6, (wkExt.tr (wkExt.tr hE hXS5) hXS6)⟩
def wvX10_lettersOf : List Cond := .code yX10_lettersOf cX10_lettersOf 3 (some .int) :: (([] : List Cond) ++ (([]) ++ ([])))
theorem gdX10_lettersOf : ∀ w ∈ wvX10_lettersOf, wkGd w := wkGdC rfl (wkGdA (wkGdL (by decide +kernel)) (wkGdA (fun _ h => absurd h List.not_mem_nil) (fun _ h => absurd h List.not_mem_nil)))
def rX10_lettersOf_b0 (F : Nat) (rec : Nat → Int32 → Int32 → wPS → (Int32 → wPS → Prop) → Prop) (l1I : Int32) (l2I : Int32) (S : wPS) (Φ : (Int32 → wPS → Prop)) : Prop :=
  if l2I ≤ 0 then (Φ l1I S) else (wkLt (l1I + (1 : Int32)) fun x2 => wkLt ((l2I >>> ((1 : Int32) &&& 31))) fun x3 => rec 0 x2 x3 S Φ)
def rX10_lettersOf_go (F : Nat) : Nat → Nat → Int32 → Int32 → wPS → (Int32 → wPS → Prop) → Prop
  | 0, _, _, _, _, _ => False
  | k' + 1, lab, l1I, l2I, S, Φ => if lab = 0 then rX10_lettersOf_b0 F (rX10_lettersOf_go F k') l1I l2I S Φ else False
def rX10_lettersOf_s (F : Nat) (rec : Nat → Int32 → Int32 → wPS → (Int32 → wPS → Prop) → Prop) (l0I : Int32) (S : wPS) (Φ : (Int32 → wPS → Prop)) : Prop :=
  wkLt ((l0I >>> ((1 : Int32) &&& 31))) fun x4 => rec 0 (0 : Int32) x4 S Φ
def rX10_lettersOf (F : Nat) (l0I : Int32) (S : wPS) (Φ : (Int32 → wPS → Prop)) : Prop := rX10_lettersOf_s F (rX10_lettersOf_go F F) l0I S Φ
set_option maxHeartbeats 4000000 in
set_option maxRecDepth 100000 in
theorem tX10_lettersOf_go {l : Launch} {X : wkX} {d F : Nat} {S0 : wPS} {Φ : (Int32 → wPS → Prop)} (C : wkC X cX10_lettersOf RX10 3 wvX10_lettersOf) (hR : wkRm X d 0 0) (hd : 0 ≤ d) (E : wkEnd l X cX10_lettersOf 3 (some .int) 0 0 (fun v' S'' => ∃ v : Int32, v' = some (.int v) ∧ Φ v S'' ∧ wkWF S'' ∧ wkExt S0 S'')) : ∀ k' : Nat, (∀ (l1I : Int32) (l2I : Int32) (S : wPS), wkWF S → wkExt S0 S → rX10_lettersOf_go F k' 0 l1I l2I S Φ → wkGo l X 3 0 0 6 S [none, some (.int l1I), some (.int l2I)] []) := by
  intro k'
  induction k' with
  | zero => exact fun l1I l2I S hW hE  h => h.elim
  | succ k' ih =>
    · intro l1I l2I S hW hE  h
      have h : rX10_lettersOf_b0 F (rX10_lettersOf_go F k') l1I l2I S Φ := by
        rw [rX10_lettersOf_go, if_pos (rfl : (0 : Nat) = 0)] at h
        exact h
      unfold rX10_lettersOf_b0 at h
      refine wk_iload_n C dX10_lettersOf_6 rfl rfl ?_
      refine wk_if_le C (tgt := 20) dX10_lettersOf_7 (by decide) (fun c1 => ?_) (fun c1 => ?_)
      · rw [if_pos c1] at h
        refine wk_iload_n C dX10_lettersOf_20 rfl rfl ?_
        exact E _ _ _ _ _ _ (Nat.le_refl 0) (Nat.le_refl 0) dX10_lettersOf_21 ⟨l1I, rfl, h, hW, hE⟩
      · rw [if_neg c1] at h
        obtain ⟨x2, ex2, h⟩ := wkLt_some h
        refine wk_iinc C (lv' := [none, some (.int x2), some (.int l2I)]) dX10_lettersOf_10 rfl (by rw [ex2]; rfl) (by decide) rfl ?_
        refine wk_iload_n C dX10_lettersOf_13 rfl rfl ?_
        refine wk_iconst C (v := 1) dX10_lettersOf_14 (by decide) ?_
        refine wk_ishr C dX10_lettersOf_15 rfl ?_
        obtain ⟨x3, ex3, h⟩ := wkLt_some h
        refine wk_topi ex3 ?_
        refine wk_istore_n C (lv' := [none, some (.int x2), some (.int x3)]) dX10_lettersOf_16 rfl (by decide) rfl ?_
        refine wk_goto C (tgt := 6) dX10_lettersOf_17 (by decide) ?_
        exact wk_forget (lv' := [none, some (.int x2), some (.int x3)]) (wkLs.le ⟨rfl, rfl, trivial⟩) (ih _ _ _ hW hE  h)
set_option maxHeartbeats 4000000 in
set_option maxRecDepth 100000 in
theorem tX10_lettersOf {l : Launch} {g : wkG} {F : Nat}  {S : wPS} {l0I : Int32} {Φ : (Int32 → wPS → Prop)} (hW : wkWF S)  (h : rX10_lettersOf F l0I S Φ) : wkMet l g yX10_lettersOf wvX10_lettersOf 0 0 0 [.int l0I] S (fun v' S'' => ∃ v : Int32, v' = some (.int v) ∧ Φ v S'' ∧ wkWF S'' ∧ wkExt S S'') := by
  refine wkMet_of (ret := (some .int)) (by decide) rfl (Nat.le_of_ble_eq_true rfl) (fun X hg C hR E => ?_)
  subst hg
  have hE : wkExt S S := wkExt.rf
  have hd : 0 ≤ 0 := Nat.le_refl _
  show wkGo l X 3 0 0 0 S [some (.int l0I), none, none] []
  have ih := tX10_lettersOf_go (F := F) C hR hd E F
  have h : rX10_lettersOf_s F (rX10_lettersOf_go F F) l0I S Φ := h
  unfold rX10_lettersOf_s at h
  refine wk_iconst C (v := 0) dX10_lettersOf_0 (by decide) ?_
  refine wk_istore_n C (lv' := [some (.int l0I), some (.int (0 : Int32)), none]) dX10_lettersOf_1 rfl (by decide) rfl ?_
  refine wk_iload_n C dX10_lettersOf_2 rfl rfl ?_
  refine wk_iconst C (v := 1) dX10_lettersOf_3 (by decide) ?_
  refine wk_ishr C dX10_lettersOf_4 rfl ?_
  obtain ⟨x4, ex4, h⟩ := wkLt_some h
  refine wk_topi ex4 ?_
  refine wk_istore_n C (lv' := [some (.int l0I), some (.int (0 : Int32)), some (.int x4)]) dX10_lettersOf_5 rfl (by decide) rfl ?_
  exact wk_forget (lv' := [none, some (.int (0 : Int32)), some (.int x4)]) (wkLs.le ⟨rfl, rfl, trivial⟩) (ih _ _ _ hW hE  h)
def wvX11_entries : List Cond := .code yX11_entries cX11_entries 1 (some .int) :: (([.fieldLink RX11 86 "Witnessworks" "entryCount" "I"] : List Cond) ++ ((wsX110) ++ ([])))
theorem huX11_entries_11 : ∀ w ∈ u_ws RX11 TX11 19, w ∈ wvX11_entries := fun w h => List.mem_cons_of_mem _ (List.mem_append_right _ (List.mem_append_left _ h))
theorem gdX11_entries : ∀ w ∈ wvX11_entries, wkGd w := wkGdC rfl (wkGdA (wkGdL (by decide +kernel)) (wkGdA gdX11 (fun _ h => absurd h List.not_mem_nil)))
def rX11_entries (F : Nat) (l0A : Nat) (S : wPS) (Φ : (Int32 → wPS → Prop)) : Prop :=
  Φ (gWitnessworks_entryCount S l0A) S
set_option maxHeartbeats 4000000 in
set_option maxRecDepth 100000 in
theorem tX11_entries {l : Launch} {g : wkG} {F : Nat}  {S : wPS} {l0A : Nat} {Φ : (Int32 → wPS → Prop)} (hW : wkWF S) (hl0A : wkIs S l0A 11) (h : rX11_entries F l0A S Φ) : wkMet l g yX11_entries wvX11_entries 0 0 0 [.ref l0A] S (fun v' S'' => ∃ v : Int32, v' = some (.int v) ∧ Φ v S'' ∧ wkWF S'' ∧ wkExt S S'') := by
  refine wkMet_of (ret := (some .int)) (by decide) rfl (Nat.le_of_ble_eq_true rfl) (fun X hg C hR E => ?_)
  subst hg
  have hE : wkExt S S := wkExt.rf
  have hd : 0 ≤ 0 := Nat.le_refl _
  show wkGo l X 1 0 0 0 S [some (.ref l0A)] []
  unfold rX11_entries at h
  refine wk_aload_n C dX11_entries_0 rfl rfl ?_
  refine wk_get C (v := .int (gWitnessworks_entryCount S l0A)) huX11_entries_11 hl0A.1 (fun cy => wAt_11 cy _ hl0A.2) rfl 2 (by decide) (List.mem_of_getElem? (i := 1) rfl) rfl rfl dX11_entries_1 ?_
  exact E _ _ _ _ _ _ (Nat.le_refl 0) (Nat.le_refl 0) dX11_entries_4 ⟨(gWitnessworks_entryCount S l0A), rfl, h, hW, hE⟩
def wvX11_person : List Cond := .code yX11_person cX11_person 1 (some .int) :: (([.fieldLink RX11 339 "Witnessworks" "personCount" "I"] : List Cond) ++ ((wsX110) ++ ([])))
theorem huX11_person_11 : ∀ w ∈ u_ws RX11 TX11 19, w ∈ wvX11_person := fun w h => List.mem_cons_of_mem _ (List.mem_append_right _ (List.mem_append_left _ h))
theorem gdX11_person : ∀ w ∈ wvX11_person, wkGd w := wkGdC rfl (wkGdA (wkGdL (by decide +kernel)) (wkGdA gdX11 (fun _ h => absurd h List.not_mem_nil)))
def rX11_person (F : Nat) (k n : Nat) (l0A : Nat) (S : wPS) (Φ : (Int32 → wPS → Prop)) (Ψ : String → wPS → Prop) : Prop :=
  if (gWitnessworks_personCount S l0A) < (6 : Int32) then (wkLt (wu_Witnessworks_personCount S l0A ((gWitnessworks_personCount S l0A) + (1 : Int32))) fun S2 => Φ ((gWitnessworks_personCount S2 l0A) - (1 : Int32)) S2) else (0 + 1 ≤ k ∧ 0 + 6 ≤ n ∧ Ψ "java/lang/IllegalStateException" S)
set_option maxHeartbeats 4000000 in
set_option maxRecDepth 100000 in
theorem tX11_person {l : Launch} {g : wkG} {F : Nat} {k n : Nat}  {S : wPS} {l0A : Nat} {Φ : (Int32 → wPS → Prop)} {Ψ : String → wPS → Prop} (hex : wkExA g) (hlt : l.stackTraces = false) (hW : wkWF S) (hl0A : wkIs S l0A 11) (h : rX11_person F k n l0A S Φ Ψ) : wkMetX l g yX11_person wvX11_person 6 k n [.ref l0A] S (fun v' S'' => ∃ v : Int32, v' = some (.int v) ∧ Φ v S'' ∧ wkWF S'' ∧ wkExt S S'') (fun E S'' => Ψ E S'' ∧ wkWF S'' ∧ wkExt S S'') := by
  refine wkMetX_of (ret := (some .int)) (by decide) rfl (Nat.le_of_ble_eq_true rfl) rfl hex hlt (by decide) (fun X hg C hR E EX ET => ?_)
  subst hg
  have hE : wkExt S S := wkExt.rf
  have hd : 6 ≤ 6 := Nat.le_refl _
  show wkGo l X 1 0 0 0 S [some (.ref l0A)] []
  unfold rX11_person at h
  refine wk_aload_n C dX11_person_0 rfl rfl ?_
  refine wk_get C (v := .int (gWitnessworks_personCount S l0A)) huX11_person_11 hl0A.1 (fun cy => wAt_11 cy _ hl0A.2) rfl 13 (by decide) (List.mem_of_getElem? (i := 1) rfl) rfl rfl dX11_person_1 ?_
  refine wk_bipush C (v := 6) dX11_person_4 (by decide) ?_
  refine wk_icmp_lt C (tgt := 20) dX11_person_6 (by decide) (fun c1 => ?_) (fun c1 => ?_)
  · rw [if_pos c1] at h
    refine wk_aload_n C dX11_person_20 rfl rfl ?_
    refine wk_dup C dX11_person_21 rfl ?_
    refine wk_get C (v := .int (gWitnessworks_personCount S l0A)) huX11_person_11 hl0A.1 (fun cy => wAt_11 cy _ hl0A.2) rfl 13 (by decide) (List.mem_of_getElem? (i := 1) rfl) rfl rfl dX11_person_22 ?_
    refine wk_iconst C (v := 1) dX11_person_25 (by decide) ?_
    refine wk_iadd C dX11_person_26 rfl ?_
    obtain ⟨S2, eS2, h⟩ := wkLt_some h
    refine wk_put C (S' := S2) huX11_person_11 hl0A.1 (fun cy => wAt_11 cy _ hl0A.2) rfl 13 (by decide) (List.mem_of_getElem? (i := 1) rfl) rfl tyX11_ok nmX11 rfl (ty := .int) rfl rfl rfl (by show 13 < 19; decide) (fun cy b => by rw [eS2]; exact wSt_11_13 cy _ hl0A.2 _ b) (by rw [eS2]) dX11_person_27 ?_
    have hWS2 : wkWF S2 := by rw [eS2]; exact hW
    have hXS2 : wkExt S S2 := by rw [eS2]; exact wkExt.rf
    refine wk_aload_n C dX11_person_30 rfl rfl ?_
    refine wk_get C (v := .int (gWitnessworks_personCount S2 l0A)) huX11_person_11 (hXS2 _ _ hl0A).1 (fun cy => wAt_11 cy _ (hXS2 _ _ hl0A).2) rfl 13 (by decide) (List.mem_of_getElem? (i := 1) rfl) rfl rfl dX11_person_31 ?_
    refine wk_iconst C (v := 1) dX11_person_34 (by decide) ?_
    refine wk_isub C dX11_person_35 rfl ?_
    exact E _ _ _ _ _ _ (Nat.zero_le _) (Nat.zero_le _) dX11_person_36 ⟨((gWitnessworks_personCount S2 l0A) - (1 : Int32)), rfl, h, hWS2, (wkExt.tr hE hXS2)⟩
  · rw [if_neg c1] at h
    obtain ⟨t3a, t3b, h⟩ := h
    exact ET _ _ _ _ _ _ (90, 342, 94, "java/lang/IllegalStateException", "there are 6 persons") (by decide +kernel) (Nat.le_of_ble_eq_true rfl) (Or.inr ⟨dX11_person_9, dX11_person_12, dX11_person_13, dX11_person_16, dX11_person_19⟩) ⟨h, hW, hE⟩ t3a t3b
def wvX11_wipe : List Cond := .code yX11_wipe cX11_wipe 2 (some .int) :: (([.fieldLink RX11 47 "Witnessworks" "typed" "LWitnessworks$Row;", .fieldLink RX11 230 "Witnessworks$Row" "count" "I", .methodLink RX11 357 yX9_clear, .instanceMethod yX9_clear, .selects RX9 yX9_clear yX9_clear, .initialized RX9] : List Cond) ++ ((wsX110 ++ (wsX90)) ++ (wvX9_clear)))
theorem huX11_wipe_11 : ∀ w ∈ u_ws RX11 TX11 19, w ∈ wvX11_wipe := fun w h => List.mem_cons_of_mem _ (List.mem_append_right _ (List.mem_append_left _ (List.mem_append_left _ h)))
theorem huX11_wipe_9 : ∀ w ∈ u_ws RX9 TX9 2, w ∈ wvX11_wipe := fun w h => List.mem_cons_of_mem _ (List.mem_append_right _ (List.mem_append_left _ (List.mem_append_right _ h)))
theorem hbX11_wipe_X9_clear : ∀ w ∈ wvX9_clear, w ∈ wvX11_wipe := fun w h => List.mem_cons_of_mem _ (List.mem_append_right _ (List.mem_append_right _ h))
theorem gdX11_wipe : ∀ w ∈ wvX11_wipe, wkGd w := wkGdC rfl (wkGdA (wkGdL (by decide +kernel)) (wkGdA (wkGdA gdX11 gdX9) gdX9_clear))
def rX11_wipe (F : Nat) (l0A : Nat) (S : wPS) (Φ : (Int32 → wPS → Prop)) : Prop :=
  wkLt ((gRow_count S (wkAd (gWitnessworks_typed S l0A)))) fun x1 => rX9_clear F (wkAd (gWitnessworks_typed S l0A)) S fun v2 S3 => Φ x1 S3
set_option maxHeartbeats 4000000 in
set_option maxRecDepth 100000 in
theorem tX11_wipe {l : Launch} {g : wkG} {F : Nat}  {S : wPS} {l0A : Nat} {Φ : (Int32 → wPS → Prop)} (hW : wkWF S) (hl0A : wkIs S l0A 11) (h : rX11_wipe F l0A S Φ) : wkMet l g yX11_wipe wvX11_wipe 1 0 0 [.ref l0A] S (fun v' S'' => ∃ v : Int32, v' = some (.int v) ∧ Φ v S'' ∧ wkWF S'' ∧ wkExt S S'') := by
  refine wkMet_of (ret := (some .int)) (by decide) rfl (Nat.le_of_ble_eq_true rfl) (fun X hg C hR E => ?_)
  subst hg
  have hE : wkExt S S := wkExt.rf
  have hd : 1 ≤ 1 := Nat.le_refl _
  show wkGo l X 2 0 0 0 S [some (.ref l0A), none] []
  unfold rX11_wipe at h
  refine wk_aload_n C dX11_wipe_0 rfl rfl ?_
  refine wk_get C huX11_wipe_11 hl0A.1 (fun cy => wAt_11 cy _ hl0A.2) rfl 11 (by decide) (List.mem_of_getElem? (i := 1) rfl) rfl (congrArg some (congrArg va_rf (wf_Witnessworks_typed hW hl0A).1)) dX11_wipe_1 ?_
  refine wk_get C (v := .int (gRow_count S (wkAd (gWitnessworks_typed S l0A)))) huX11_wipe_9 (wf_Witnessworks_typed hW hl0A).2.1 (fun cy => wAt_9 cy _ (wf_Witnessworks_typed hW hl0A).2.2) rfl 1 (by decide) (List.mem_of_getElem? (i := 2) rfl) rfl rfl dX11_wipe_4 ?_
  obtain ⟨x1, ex1, h⟩ := wkLt_some h
  refine wk_topi ex1 ?_
  refine wk_istore_n C (lv' := [some (.ref l0A), some (.int x1)]) dX11_wipe_7 rfl (by decide) rfl ?_
  refine wk_aload_n C dX11_wipe_8 rfl rfl ?_
  refine wk_get C huX11_wipe_11 hl0A.1 (fun cy => wAt_11 cy _ hl0A.2) rfl 11 (by decide) (List.mem_of_getElem? (i := 1) rfl) rfl (congrArg some (congrArg va_rf (wf_Witnessworks_typed hW hl0A).1)) dX11_wipe_9 ?_
  refine wk_callV C hR (As := []) (cnt := 0) (tX9_clear (l := l) hW (wf_Witnessworks_typed hW hl0A).2 h) rfl (wkGoodV (List.mem_of_getElem? (i := 3) rfl) (List.mem_of_getElem? (i := 4) rfl) (List.mem_of_getElem? (i := 5) rfl) (List.mem_of_getElem? (i := 6) rfl) hbX11_wipe_X9_clear gdX9_clear) (Nat.le_trans (by decide : 0 + 1 ≤ 1) hd) (by decide) (wf_Witnessworks_typed hW hl0A).2.1 (fun cy => wAt_9 cy _ (wf_Witnessworks_typed hW hl0A).2.2) rfl ⟨by decide, by decide, by decide +kernel⟩ rfl rfl (Nat.le_of_ble_eq_true rfl) (Nat.le_refl 0) (Nat.le_refl 0) dX11_wipe_12 (fun v' S3 hp => ?_)
  obtain ⟨v2, rfl, h, hWS3, hXS3⟩ := hp
  refine wk_iload_n C dX11_wipe_15 rfl rfl ?_
  exact E _ _ _ _ _ _ (Nat.le_refl 0) (Nat.le_refl 0) dX11_wipe_16 ⟨x1, rfl, h, hWS3, (wkExt.tr hE hXS3)⟩
def wvX11_canHaveSize : List Cond := .code yX11_canHaveSize cX11_canHaveSize 2 (some .boolean) :: (([.fieldLink RX11 457 "Witnessworks" "LEAST_SIZE" "[I", .fieldLink RX11 460 "Witnessworks" "MOST_SIZE" "[I"] : List Cond) ++ (([]) ++ ([])))
theorem gdX11_canHaveSize : ∀ w ∈ wvX11_canHaveSize, wkGd w := wkGdC rfl (wkGdA (wkGdL (by decide +kernel)) (wkGdA (fun _ h => absurd h List.not_mem_nil) (fun _ h => absurd h List.not_mem_nil)))
def rX11_canHaveSize (F : Nat) (l0I : Int32) (l1I : Int32) (S : wPS) (Φ : (Int32 → wPS → Prop)) : Prop :=
  ¬ (l0I < 0 ∨ 12 ≤ (l0I).toNatClampNeg) ∧ if l1I < (wkTab 0 (l0I).toNatClampNeg) then (Φ (0 : Int32) S) else (¬ (l0I < 0 ∨ 12 ≤ (l0I).toNatClampNeg) ∧ if (wkTab 1 (l0I).toNatClampNeg) < l1I then (Φ (0 : Int32) S) else (Φ (1 : Int32) S))
set_option maxHeartbeats 4000000 in
set_option maxRecDepth 100000 in
theorem tX11_canHaveSize {l : Launch} {g : wkG} {F : Nat}  {S : wPS} {l0I : Int32} {l1I : Int32} {Φ : (Int32 → wPS → Prop)} (hst : wkSta g) (hW : wkWF S)  (h : rX11_canHaveSize F l0I l1I S Φ) : wkMet l g yX11_canHaveSize wvX11_canHaveSize 0 0 0 [.int l0I, .int l1I] S (fun v' S'' => ∃ v : Int32, v' = some (.int v) ∧ Φ v S'' ∧ wkWF S'' ∧ wkExt S S'') := by
  refine wkMet_of (ret := (some .boolean)) (by decide) rfl (Nat.le_of_ble_eq_true rfl) (fun X hg C hR E => ?_)
  subst hg
  have hE : wkExt S S := wkExt.rf
  have hd : 0 ≤ 0 := Nat.le_refl _
  show wkGo l X 2 0 0 0 S [some (.int l0I), some (.int l1I)] []
  unfold rX11_canHaveSize at h
  refine wk_iload_n C dX11_canHaveSize_0 rfl rfl ?_
  refine wk_gets C hst (i := 0) (by decide) (List.mem_of_getElem? (i := 1) rfl) dX11_canHaveSize_1 ?_
  refine wk_iload_n C dX11_canHaveSize_4 rfl rfl ?_
  obtain ⟨i1, h⟩ := h
  refine wk_tabld C hst (i := 0) (by decide) i1 rfl dX11_canHaveSize_5 ?_
  refine wk_icmp_lt C (tgt := 22) dX11_canHaveSize_6 (by decide) (fun c2 => ?_) (fun c2 => ?_)
  · rw [if_pos c2] at h
    refine wk_iconst C (v := 0) dX11_canHaveSize_22 (by decide) ?_
    exact E _ _ _ _ _ _ (Nat.le_refl 0) (Nat.le_refl 0) dX11_canHaveSize_23 rfl ⟨(0 : Int32), rfl, h, hW, hE⟩
  · rw [if_neg c2] at h
    refine wk_iload_n C dX11_canHaveSize_9 rfl rfl ?_
    refine wk_gets C hst (i := 1) (by decide) (List.mem_of_getElem? (i := 2) rfl) dX11_canHaveSize_10 ?_
    refine wk_iload_n C dX11_canHaveSize_13 rfl rfl ?_
    obtain ⟨i3, h⟩ := h
    refine wk_tabld C hst (i := 1) (by decide) i3 rfl dX11_canHaveSize_14 ?_
    refine wk_icmp_gt C (tgt := 22) dX11_canHaveSize_15 (by decide) (fun c4 => ?_) (fun c4 => ?_)
    · rw [if_pos c4] at h
      refine wk_iconst C (v := 0) dX11_canHaveSize_22 (by decide) ?_
      exact E _ _ _ _ _ _ (Nat.le_refl 0) (Nat.le_refl 0) dX11_canHaveSize_23 rfl ⟨(0 : Int32), rfl, h, hW, hE⟩
    · rw [if_neg c4] at h
      refine wk_iconst C (v := 1) dX11_canHaveSize_18 (by decide) ?_
      refine wk_goto C (tgt := 23) dX11_canHaveSize_19 (by decide) ?_
      exact E _ _ _ _ _ _ (Nat.le_refl 0) (Nat.le_refl 0) dX11_canHaveSize_23 rfl ⟨(1 : Int32), rfl, h, hW, hE⟩
def wvX11_canHaveBound : List Cond := .code yX11_canHaveBound cX11_canHaveBound 2 (some .boolean) :: (([.fieldLink RX11 463 "Witnessworks" "LEAST_BOUND" "[I", .fieldLink RX11 466 "Witnessworks" "MOST_BOUND" "[I"] : List Cond) ++ (([]) ++ ([])))
theorem gdX11_canHaveBound : ∀ w ∈ wvX11_canHaveBound, wkGd w := wkGdC rfl (wkGdA (wkGdL (by decide +kernel)) (wkGdA (fun _ h => absurd h List.not_mem_nil) (fun _ h => absurd h List.not_mem_nil)))
def rX11_canHaveBound (F : Nat) (l0I : Int32) (l1I : Int32) (S : wPS) (Φ : (Int32 → wPS → Prop)) : Prop :=
  ¬ (l0I < 0 ∨ 12 ≤ (l0I).toNatClampNeg) ∧ if l1I < (wkTab 2 (l0I).toNatClampNeg) then (Φ (0 : Int32) S) else (¬ (l0I < 0 ∨ 12 ≤ (l0I).toNatClampNeg) ∧ if (wkTab 3 (l0I).toNatClampNeg) < l1I then (Φ (0 : Int32) S) else (Φ (1 : Int32) S))
set_option maxHeartbeats 4000000 in
set_option maxRecDepth 100000 in
theorem tX11_canHaveBound {l : Launch} {g : wkG} {F : Nat}  {S : wPS} {l0I : Int32} {l1I : Int32} {Φ : (Int32 → wPS → Prop)} (hst : wkSta g) (hW : wkWF S)  (h : rX11_canHaveBound F l0I l1I S Φ) : wkMet l g yX11_canHaveBound wvX11_canHaveBound 0 0 0 [.int l0I, .int l1I] S (fun v' S'' => ∃ v : Int32, v' = some (.int v) ∧ Φ v S'' ∧ wkWF S'' ∧ wkExt S S'') := by
  refine wkMet_of (ret := (some .boolean)) (by decide) rfl (Nat.le_of_ble_eq_true rfl) (fun X hg C hR E => ?_)
  subst hg
  have hE : wkExt S S := wkExt.rf
  have hd : 0 ≤ 0 := Nat.le_refl _
  show wkGo l X 2 0 0 0 S [some (.int l0I), some (.int l1I)] []
  unfold rX11_canHaveBound at h
  refine wk_iload_n C dX11_canHaveBound_0 rfl rfl ?_
  refine wk_gets C hst (i := 2) (by decide) (List.mem_of_getElem? (i := 1) rfl) dX11_canHaveBound_1 ?_
  refine wk_iload_n C dX11_canHaveBound_4 rfl rfl ?_
  obtain ⟨i1, h⟩ := h
  refine wk_tabld C hst (i := 2) (by decide) i1 rfl dX11_canHaveBound_5 ?_
  refine wk_icmp_lt C (tgt := 22) dX11_canHaveBound_6 (by decide) (fun c2 => ?_) (fun c2 => ?_)
  · rw [if_pos c2] at h
    refine wk_iconst C (v := 0) dX11_canHaveBound_22 (by decide) ?_
    exact E _ _ _ _ _ _ (Nat.le_refl 0) (Nat.le_refl 0) dX11_canHaveBound_23 rfl ⟨(0 : Int32), rfl, h, hW, hE⟩
  · rw [if_neg c2] at h
    refine wk_iload_n C dX11_canHaveBound_9 rfl rfl ?_
    refine wk_gets C hst (i := 3) (by decide) (List.mem_of_getElem? (i := 2) rfl) dX11_canHaveBound_10 ?_
    refine wk_iload_n C dX11_canHaveBound_13 rfl rfl ?_
    obtain ⟨i3, h⟩ := h
    refine wk_tabld C hst (i := 3) (by decide) i3 rfl dX11_canHaveBound_14 ?_
    refine wk_icmp_gt C (tgt := 22) dX11_canHaveBound_15 (by decide) (fun c4 => ?_) (fun c4 => ?_)
    · rw [if_pos c4] at h
      refine wk_iconst C (v := 0) dX11_canHaveBound_22 (by decide) ?_
      exact E _ _ _ _ _ _ (Nat.le_refl 0) (Nat.le_refl 0) dX11_canHaveBound_23 rfl ⟨(0 : Int32), rfl, h, hW, hE⟩
    · rw [if_neg c4] at h
      refine wk_iconst C (v := 1) dX11_canHaveBound_18 (by decide) ?_
      refine wk_goto C (tgt := 23) dX11_canHaveBound_19 (by decide) ?_
      exact E _ _ _ _ _ _ (Nat.le_refl 0) (Nat.le_refl 0) dX11_canHaveBound_23 rfl ⟨(1 : Int32), rfl, h, hW, hE⟩
def wvX11_mostItems : List Cond := .code yX11_mostItems cX11_mostItems 1 (some .int) :: (([.fieldLink RX11 147 "Witnessworks$Entry" "kind" "I", .fieldLink RX11 184 "Witnessworks$Entry" "size" "I", .fieldLink RX11 469 "Witnessworks" "MOST_ITEMS" "[I"] : List Cond) ++ ((wsX30) ++ ([])))
theorem huX11_mostItems_3 : ∀ w ∈ u_ws RX3 TX3 17, w ∈ wvX11_mostItems := fun w h => List.mem_cons_of_mem _ (List.mem_append_right _ (List.mem_append_left _ h))
theorem gdX11_mostItems : ∀ w ∈ wvX11_mostItems, wkGd w := wkGdC rfl (wkGdA (wkGdL (by decide +kernel)) (wkGdA gdX3 (fun _ h => absurd h List.not_mem_nil)))
def rX11_mostItems (F : Nat) (l0A : Nat) (S : wPS) (Φ : (Int32 → wPS → Prop)) : Prop :=
  if (gEntry_kind S l0A) = (10 : Int32) then (Φ (gEntry_size S l0A) S) else (if (gEntry_kind S l0A) = (11 : Int32) then (Φ (gEntry_size S l0A) S) else (¬ ((gEntry_kind S l0A) < 0 ∨ 12 ≤ ((gEntry_kind S l0A)).toNatClampNeg) ∧ Φ (wkTab 4 ((gEntry_kind S l0A)).toNatClampNeg) S))
set_option maxHeartbeats 4000000 in
set_option maxRecDepth 100000 in
theorem tX11_mostItems {l : Launch} {g : wkG} {F : Nat}  {S : wPS} {l0A : Nat} {Φ : (Int32 → wPS → Prop)} (hst : wkSta g) (hW : wkWF S) (hl0A : wkIs S l0A 3) (h : rX11_mostItems F l0A S Φ) : wkMet l g yX11_mostItems wvX11_mostItems 0 0 0 [.ref l0A] S (fun v' S'' => ∃ v : Int32, v' = some (.int v) ∧ Φ v S'' ∧ wkWF S'' ∧ wkExt S S'') := by
  refine wkMet_of (ret := (some .int)) (by decide) rfl (Nat.le_of_ble_eq_true rfl) (fun X hg C hR E => ?_)
  subst hg
  have hE : wkExt S S := wkExt.rf
  have hd : 0 ≤ 0 := Nat.le_refl _
  show wkGo l X 1 0 0 0 S [some (.ref l0A)] []
  unfold rX11_mostItems at h
  refine wk_aload_n C dX11_mostItems_0 rfl rfl ?_
  refine wk_get C (v := .int (gEntry_kind S l0A)) huX11_mostItems_3 hl0A.1 (fun cy => wAt_3 cy _ hl0A.2) rfl 0 (by decide) (List.mem_of_getElem? (i := 1) rfl) rfl rfl dX11_mostItems_1 ?_
  refine wk_bipush C (v := 10) dX11_mostItems_4 (by decide) ?_
  refine wk_icmp_eq C (tgt := 18) dX11_mostItems_6 (by decide) (fun c1 => ?_) (fun c1 => ?_)
  · rw [if_pos c1] at h
    refine wk_aload_n C dX11_mostItems_18 rfl rfl ?_
    refine wk_get C (v := .int (gEntry_size S l0A)) huX11_mostItems_3 hl0A.1 (fun cy => wAt_3 cy _ hl0A.2) rfl 1 (by decide) (List.mem_of_getElem? (i := 2) rfl) rfl rfl dX11_mostItems_19 ?_
    exact E _ _ _ _ _ _ (Nat.le_refl 0) (Nat.le_refl 0) dX11_mostItems_22 ⟨(gEntry_size S l0A), rfl, h, hW, hE⟩
  · rw [if_neg c1] at h
    refine wk_aload_n C dX11_mostItems_9 rfl rfl ?_
    refine wk_get C (v := .int (gEntry_kind S l0A)) huX11_mostItems_3 hl0A.1 (fun cy => wAt_3 cy _ hl0A.2) rfl 0 (by decide) (List.mem_of_getElem? (i := 1) rfl) rfl rfl dX11_mostItems_10 ?_
    refine wk_bipush C (v := 11) dX11_mostItems_13 (by decide) ?_
    refine wk_icmp_ne C (tgt := 23) dX11_mostItems_15 (by decide) (fun c2 => ?_) (fun c2 => ?_)
    · rw [if_neg c2] at h
      refine wk_gets C hst (i := 4) (by decide) (List.mem_of_getElem? (i := 3) rfl) dX11_mostItems_23 ?_
      refine wk_aload_n C dX11_mostItems_26 rfl rfl ?_
      refine wk_get C (v := .int (gEntry_kind S l0A)) huX11_mostItems_3 hl0A.1 (fun cy => wAt_3 cy _ hl0A.2) rfl 0 (by decide) (List.mem_of_getElem? (i := 1) rfl) rfl rfl dX11_mostItems_27 ?_
      obtain ⟨i3, h⟩ := h
      refine wk_tabld C hst (i := 4) (by decide) i3 rfl dX11_mostItems_30 ?_
      exact E _ _ _ _ _ _ (Nat.le_refl 0) (Nat.le_refl 0) dX11_mostItems_31 ⟨(wkTab 4 ((gEntry_kind S l0A)).toNatClampNeg), rfl, h, hW, hE⟩
    · rw [if_pos c2] at h
      refine wk_aload_n C dX11_mostItems_18 rfl rfl ?_
      refine wk_get C (v := .int (gEntry_size S l0A)) huX11_mostItems_3 hl0A.1 (fun cy => wAt_3 cy _ hl0A.2) rfl 1 (by decide) (List.mem_of_getElem? (i := 2) rfl) rfl rfl dX11_mostItems_19 ?_
      exact E _ _ _ _ _ _ (Nat.le_refl 0) (Nat.le_refl 0) dX11_mostItems_22 ⟨(gEntry_size S l0A), rfl, h, hW, hE⟩
