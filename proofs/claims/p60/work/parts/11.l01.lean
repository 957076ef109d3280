def wvL_cell : List Cond := .code yL_cell cL_cell 2 (some .int) :: (([] : List Cond) ++ (([]) ++ ([])))
theorem gdL_cell : ∀ w ∈ wvL_cell, wkGd w := wkGdC rfl (wkGdA (wkGdL (by decide +kernel)) (wkGdA (fun _ h => absurd h List.not_mem_nil) (fun _ h => absurd h List.not_mem_nil)))
def rL_cell (G : wkG) (F : Nat) (l1I : Int32) (S : wPS) (Φ : (Int32 → wPS → Prop)) : Prop :=
  if (Int32.ofNat (G.1 9)) ≤ l1I then (Φ (((7919 : Int32) * l1I) + (12 : Int32)) S) else (¬ (l1I < 0 ∨ G.1 9 ≤ (l1I).toNatClampNeg) ∧ Φ (Int32.ofNat (G.1 (100 + (l1I).toNatClampNeg))) S)
set_option maxHeartbeats 4000000 in
set_option maxRecDepth 100000 in
theorem tL_cell {l : Launch} {g : wkG} {F : Nat}  {S : wPS} {l0A : Nat} {l1I : Int32} {Φ : (Int32 → wPS → Prop)} (harg : wkArg g) (hW : wkWF S) (hl0A : l0A = g.1 8) (h : rL_cell g F l1I S Φ) : wkMet l g yL_cell wvL_cell 0 0 0 [.ref l0A, .int l1I] S (fun v' S'' => ∃ v : Int32, v' = some (.int v) ∧ Φ v S'' ∧ wkWF S'' ∧ wkExt S S'') := by
  refine wkMet_of (ret := (some .int)) (by decide) rfl (Nat.le_of_ble_eq_true rfl) (fun X hg C hR E => ?_)
  subst hg
  have hE : wkExt S S := wkExt.rf
  have hd : 0 ≤ 0 := Nat.le_refl _
  show wkGo l X 2 0 0 0 S [some (.ref l0A), some (.int l1I)] []
  unfold rL_cell at h
  refine wk_iload_n C dL_cell_0 rfl rfl ?_
  refine wk_aload_n C dL_cell_1 rfl rfl ?_
  refine wk_alen C harg hl0A rfl dL_cell_2 ?_
  refine wk_icmp_ge C (tgt := 12) dL_cell_3 (by decide) (fun c1 => ?_) (fun c1 => ?_)
  · rw [if_pos c1] at h
    refine wk_sipush C (v := 7919) dL_cell_12 (by decide) ?_
    refine wk_iload_n C dL_cell_15 rfl rfl ?_
    refine wk_imul C dL_cell_16 rfl ?_
    refine wk_bipush C (v := 12) dL_cell_17 (by decide) ?_
    refine wk_iadd C dL_cell_19 rfl ?_
    exact E _ _ _ _ _ _ (Nat.le_refl 0) (Nat.le_refl 0) dL_cell_20 ⟨(((7919 : Int32) * l1I) + (12 : Int32)), rfl, h, hW, hE⟩
  · rw [if_neg c1] at h
    refine wk_aload_n C dL_cell_6 rfl rfl ?_
    refine wk_iload_n C dL_cell_7 rfl rfl ?_
    obtain ⟨i2, h⟩ := h
    refine wk_aald C harg hl0A i2 rfl dL_cell_8 ?_
    refine wk_goto C (tgt := 20) dL_cell_9 (by decide) ?_
    exact E _ _ _ _ _ _ (Nat.le_refl 0) (Nat.le_refl 0) dL_cell_20 ⟨(Int32.ofNat ((wkXg X).1 (100 + (l1I).toNatClampNeg))), rfl, h, hW, hE⟩
def wvL_chosen : List Cond := .code yL_chosen cL_chosen 2 (some .int) :: (([.constant RL 7 (2147483647)] : List Cond) ++ (([]) ++ ([])))
theorem gdL_chosen : ∀ w ∈ wvL_chosen, wkGd w := wkGdC rfl (wkGdA (wkGdL (by decide +kernel)) (wkGdA (fun _ h => absurd h List.not_mem_nil) (fun _ h => absurd h List.not_mem_nil)))
def rL_chosen (G : wkG) (F : Nat) (l0I : Int32) (l1I : Int32) (S : wPS) (Φ : (Int32 → wPS → Prop)) : Prop :=
  ¬ l1I = 0 ∧ Φ ((l0I &&& (2147483647 : Int32)) - (l0I &&& (2147483647 : Int32)) / l1I * l1I) S
set_option maxHeartbeats 4000000 in
set_option maxRecDepth 100000 in
theorem tL_chosen {l : Launch} {g : wkG} {F : Nat}  {S : wPS} {l0I : Int32} {l1I : Int32} {Φ : (Int32 → wPS → Prop)} (hW : wkWF S)  (h : rL_chosen g F l0I l1I S Φ) : wkMet l g yL_chosen wvL_chosen 0 0 0 [.int l0I, .int l1I] S (fun v' S'' => ∃ v : Int32, v' = some (.int v) ∧ Φ v S'' ∧ wkWF S'' ∧ wkExt S S'') := by
  refine wkMet_of (ret := (some .int)) (by decide) rfl (Nat.le_of_ble_eq_true rfl) (fun X hg C hR E => ?_)
  subst hg
  have hE : wkExt S S := wkExt.rf
  have hd : 0 ≤ 0 := Nat.le_refl _
  show wkGo l X 2 0 0 0 S [some (.int l0I), some (.int l1I)] []
  unfold rL_chosen at h
  refine wk_iload_n C dL_chosen_0 rfl rfl ?_
  refine wk_ldc C (v := 2147483647) (List.mem_of_getElem? (i := 1) rfl) dL_chosen_1 ?_
  refine wk_iand C dL_chosen_3 rfl ?_
  refine wk_iload_n C dL_chosen_4 rfl rfl ?_
  obtain ⟨z1, h⟩ := h
  refine wk_irem C dL_chosen_5 z1 rfl ?_
  exact E _ _ _ _ _ _ (Nat.le_refl 0) (Nat.le_refl 0) dL_chosen_6 ⟨((l0I &&& (2147483647 : Int32)) - (l0I &&& (2147483647 : Int32)) / l1I * l1I), rfl, h, hW, hE⟩
def wvL_entries : List Cond := .code yL_entries cL_entries 1 (some .long) :: (([.methodLink RL 65 yX11_entries, .instanceMethod yX11_entries, .selects RX11 yX11_entries yX11_entries, .initialized RX11] : List Cond) ++ (([]) ++ (wvX11_entries)))
theorem hbL_entries_X11_entries : ∀ w ∈ wvX11_entries, w ∈ wvL_entries := fun w h => List.mem_cons_of_mem _ (List.mem_append_right _ (List.mem_append_right _ h))
theorem gdL_entries : ∀ w ∈ wvL_entries, wkGd w := wkGdC rfl (wkGdA (wkGdL (by decide +kernel)) (wkGdA (fun _ h => absurd h List.not_mem_nil) gdX11_entries))
def rL_entries (G : wkG) (F : Nat) (l0A : Nat) (S : wPS) (Φ : (Int64 → wPS → Prop)) : Prop :=
  rX11_entries F l0A S fun v1 S2 => Φ (Int32.toInt64 v1) S2
set_option maxHeartbeats 4000000 in
set_option maxRecDepth 100000 in
theorem tL_entries {l : Launch} {g : wkG} {F : Nat}  {S : wPS} {l0A : Nat} {Φ : (Int64 → wPS → Prop)} (hW : wkWF S) (hl0A : wkIs S l0A 11) (h : rL_entries g F l0A S Φ) : wkMet l g yL_entries wvL_entries 1 0 0 [.ref l0A] S (fun v' S'' => ∃ v : Int64, v' = some (.long v) ∧ Φ v S'' ∧ wkWF S'' ∧ wkExt S S'') := by
  refine wkMet_of (ret := (some .long)) (by decide) rfl (Nat.le_of_ble_eq_true rfl) (fun X hg C hR E => ?_)
  subst hg
  have hE : wkExt S S := wkExt.rf
  have hd : 1 ≤ 1 := Nat.le_refl _
  show wkGo l X 1 0 0 0 S [some (.ref l0A)] []
  unfold rL_entries at h
  refine wk_aload_n C dL_entries_0 rfl rfl ?_
  refine wk_callV C hR (As := []) (cnt := 0) (tX11_entries (l := l) hW hl0A h) rfl (wkGoodV (List.mem_of_getElem? (i := 1) rfl) (List.mem_of_getElem? (i := 2) rfl) (List.mem_of_getElem? (i := 3) rfl) (List.mem_of_getElem? (i := 4) rfl) hbL_entries_X11_entries gdX11_entries) (Nat.le_trans (by decide : 0 + 1 ≤ 1) hd) (by decide) hl0A.1 (fun cy => wAt_11 cy _ hl0A.2) rfl ⟨by decide, by decide, by decide +kernel⟩ rfl rfl (Nat.le_of_ble_eq_true rfl) (Nat.le_refl 0) (Nat.le_refl 0) dL_entries_1 (fun v' S2 hp => ?_)
  obtain ⟨v1, rfl, h, hWS2, hXS2⟩ := hp
  refine wk_i2l C dL_entries_4 rfl ?_
  exact E _ _ _ _ _ _ (Nat.le_refl 0) (Nat.le_refl 0) dL_entries_5 ⟨(Int32.toInt64 v1), rfl, h, hWS2, (wkExt.tr hE hXS2)⟩
def wvL_person : List Cond := .codeWith yL_person cL_person 2 (some .long) [(0, 5, 6, 20)] :: (([.constantLong RL 18 (-4000000000000000001), .methodLink RL 108 yX11_person, .instanceMethod yX11_person, .selects RX11 yX11_person yX11_person, .initialized RX11, .classLink RL 20 "java/lang/IllegalStateException"] : List Cond) ++ (([]) ++ (wvX11_person)))
theorem hbL_person_X11_person : ∀ w ∈ wvX11_person, w ∈ wvL_person := fun w h => List.mem_cons_of_mem _ (List.mem_append_right _ (List.mem_append_right _ h))
theorem gdL_person : ∀ w ∈ wvL_person, wkGd w := wkGdC rfl (wkGdA (wkGdL (by decide +kernel)) (wkGdA (fun _ h => absurd h List.not_mem_nil) gdX11_person))
def rL_person (G : wkG) (F : Nat) (k n : Nat) (l0A : Nat) (S : wPS) (Φ : (Int64 → wPS → Prop)) : Prop :=
  ∃ k4 n5 : Nat, 0 + k4 ≤ k ∧ 0 + n5 ≤ n ∧ rX11_person F k4 n5 l0A S (fun v1 S2 => Φ (Int32.toInt64 v1) S2) (fun E6 S7 => if E6 = "java/lang/IllegalStateException" then (Φ (-4000000000000000001 : Int64) S7) else False)
set_option maxHeartbeats 4000000 in
set_option maxRecDepth 100000 in
theorem tL_person {l : Launch} {g : wkG} {F : Nat} {k n : Nat}  {S : wPS} {l0A : Nat} {Φ : (Int64 → wPS → Prop)} (hcs : wkCast g) (hex : wkExA g) (hlt : l.stackTraces = false) (hW : wkWF S) (hl0A : wkIs S l0A 11) (h : rL_person g F k n l0A S Φ) : wkMet l g yL_person wvL_person 7 k n [.ref l0A] S (fun v' S'' => ∃ v : Int64, v' = some (.long v) ∧ Φ v S'' ∧ wkWF S'' ∧ wkExt S S'') := by
  refine wkMet_ofT (ret := (some .long)) (plainFor_of_name (by decide)) rfl (Nat.le_of_ble_eq_true rfl) (fun X hg C hR hT E => ?_)
  subst hg
  have hE : wkExt S S := wkExt.rf
  have hd : 7 ≤ 7 := Nat.le_refl _
  show wkGo l X 2 0 0 0 S [some (.ref l0A), none] []
  unfold rL_person at h
  refine wk_aload_n C dL_person_0 rfl rfl ?_
  obtain ⟨k4, n5, hk4, hn5, h⟩ := h
  refine wk_callVH C hT hcs hR (As := []) (cnt := 0) (tX11_person (l := l) hex hlt hW hl0A h) rfl (wkGoodV (List.mem_of_getElem? (i := 2) rfl) (List.mem_of_getElem? (i := 3) rfl) (List.mem_of_getElem? (i := 4) rfl) (List.mem_of_getElem? (i := 5) rfl) hbL_person_X11_person gdX11_person) (Nat.le_trans (by decide : 6 + 1 ≤ 7) hd) (by decide) hl0A.1 (fun cy => wAt_11 cy _ hl0A.2) rfl ⟨by decide, by decide, by decide +kernel⟩ rfl rfl (Nat.le_of_ble_eq_true rfl) hk4 hn5 dL_person_1 (fun E6 S7 hx => ?_) (fun v' S2 hp => ?_)
  · obtain ⟨hx, hWS7, hXS7⟩ := hx
    rcases wkIf hx with ⟨cE, h⟩ | ⟨-, hx⟩
    · subst cE
      refine ⟨[], [], 0, 5, 6, 20, rfl, (fun _ h => absurd h List.not_mem_nil), rfl, by decide, (List.mem_of_getElem? (i := 6) rfl), by decide +kernel, fun q8 => ?_⟩
      refine wk_astore_n C (lv' := [some (.ref l0A), some (.ref q8)]) dL_person_6 rfl (by decide) rfl ?_
      refine wk_ldc2 C (v := (-4000000000000000001)) (List.mem_of_getElem? (i := 1) rfl) dL_person_7 ?_
      exact E _ _ _ _ _ _ hk4 hn5 dL_person_10 ⟨(-4000000000000000001 : Int64), rfl, h, hWS7, (wkExt.tr hE hXS7)⟩
    · exact hx.elim
  obtain ⟨v1, rfl, h, hWS2, hXS2⟩ := hp
  refine wk_i2l C dL_person_4 rfl ?_
  exact E _ _ _ _ _ _ hk4 hn5 dL_person_5 ⟨(Int32.toInt64 v1), rfl, h, hWS2, (wkExt.tr hE hXS2)⟩
def wvL_wipe : List Cond := .code yL_wipe cL_wipe 1 (some .long) :: (([.methodLink RL 117 yX11_wipe, .instanceMethod yX11_wipe, .selects RX11 yX11_wipe yX11_wipe, .initialized RX11] : List Cond) ++ (([]) ++ (wvX11_wipe)))
theorem hbL_wipe_X11_wipe : ∀ w ∈ wvX11_wipe, w ∈ wvL_wipe := fun w h => List.mem_cons_of_mem _ (List.mem_append_right _ (List.mem_append_right _ h))
theorem gdL_wipe : ∀ w ∈ wvL_wipe, wkGd w := wkGdC rfl (wkGdA (wkGdL (by decide +kernel)) (wkGdA (fun _ h => absurd h List.not_mem_nil) gdX11_wipe))
def rL_wipe (G : wkG) (F : Nat) (l0A : Nat) (S : wPS) (Φ : (Int64 → wPS → Prop)) : Prop :=
  rX11_wipe F l0A S fun v1 S2 => Φ (Int32.toInt64 v1) S2
set_option maxHeartbeats 4000000 in
set_option maxRecDepth 100000 in
theorem tL_wipe {l : Launch} {g : wkG} {F : Nat}  {S : wPS} {l0A : Nat} {Φ : (Int64 → wPS → Prop)} (hW : wkWF S) (hl0A : wkIs S l0A 11) (h : rL_wipe g F l0A S Φ) : wkMet l g yL_wipe wvL_wipe 2 0 0 [.ref l0A] S (fun v' S'' => ∃ v : Int64, v' = some (.long v) ∧ Φ v S'' ∧ wkWF S'' ∧ wkExt S S'') := by
  refine wkMet_of (ret := (some .long)) (by decide) rfl (Nat.le_of_ble_eq_true rfl) (fun X hg C hR E => ?_)
  subst hg
  have hE : wkExt S S := wkExt.rf
  have hd : 2 ≤ 2 := Nat.le_refl _
  show wkGo l X 1 0 0 0 S [some (.ref l0A)] []
  unfold rL_wipe at h
  refine wk_aload_n C dL_wipe_0 rfl rfl ?_
  refine wk_callV C hR (As := []) (cnt := 0) (tX11_wipe (l := l) hW hl0A h) rfl (wkGoodV (List.mem_of_getElem? (i := 1) rfl) (List.mem_of_getElem? (i := 2) rfl) (List.mem_of_getElem? (i := 3) rfl) (List.mem_of_getElem? (i := 4) rfl) hbL_wipe_X11_wipe gdX11_wipe) (Nat.le_trans (by decide : 1 + 1 ≤ 2) hd) (by decide) hl0A.1 (fun cy => wAt_11 cy _ hl0A.2) rfl ⟨by decide, by decide, by decide +kernel⟩ rfl rfl (Nat.le_of_ble_eq_true rfl) (Nat.le_refl 0) (Nat.le_refl 0) dL_wipe_1 (fun v' S2 hp => ?_)
  obtain ⟨v1, rfl, h, hWS2, hXS2⟩ := hp
  refine wk_i2l C dL_wipe_4 rfl ?_
  exact E _ _ _ _ _ _ (Nat.le_refl 0) (Nat.le_refl 0) dL_wipe_5 ⟨(Int32.toInt64 v1), rfl, h, hWS2, (wkExt.tr hE hXS2)⟩
def wvL_drawn : List Cond := .code yL_drawn cL_drawn 3 (some .int) :: (([.methodLink RL 145 yL_cell, .static yL_cell, .initialized RL, .constant RL 149 (104729), .methodLink RL 150 yL_chosen, .static yL_chosen] : List Cond) ++ (([]) ++ (wvL_cell ++ (wvL_chosen))))
theorem hbL_drawn_L_cell : ∀ w ∈ wvL_cell, w ∈ wvL_drawn := fun w h => List.mem_cons_of_mem _ (List.mem_append_right _ (List.mem_append_right _ (List.mem_append_left _ h)))
theorem hbL_drawn_L_chosen : ∀ w ∈ wvL_chosen, w ∈ wvL_drawn := fun w h => List.mem_cons_of_mem _ (List.mem_append_right _ (List.mem_append_right _ (List.mem_append_right _ h)))
theorem gdL_drawn : ∀ w ∈ wvL_drawn, wkGd w := wkGdC rfl (wkGdA (wkGdL (by decide +kernel)) (wkGdA (fun _ h => absurd h List.not_mem_nil) (wkGdA gdL_cell gdL_chosen)))
def rL_drawn (G : wkG) (F : Nat) (l1I : Int32) (l2I : Int32) (S : wPS) (Φ : (Int32 → wPS → Prop)) : Prop :=
  rL_cell G F (l1I - l1I / (150 : Int32) * (150 : Int32)) S fun v1 S2 => rL_chosen G F (v1 + ((104729 : Int32) * l1I)) l2I S2 fun v6 S7 => Φ v6 S7
set_option maxHeartbeats 4000000 in
set_option maxRecDepth 100000 in
theorem tL_drawn {l : Launch} {g : wkG} {F : Nat}  {S : wPS} {l0A : Nat} {l1I : Int32} {l2I : Int32} {Φ : (Int32 → wPS → Prop)} (harg : wkArg g) (hW : wkWF S) (hl0A : l0A = g.1 8) (h : rL_drawn g F l1I l2I S Φ) : wkMet l g yL_drawn wvL_drawn 1 0 0 [.ref l0A, .int l1I, .int l2I] S (fun v' S'' => ∃ v : Int32, v' = some (.int v) ∧ Φ v S'' ∧ wkWF S'' ∧ wkExt S S'') := by
  refine wkMet_of (ret := (some .int)) (by decide) rfl (Nat.le_of_ble_eq_true rfl) (fun X hg C hR E => ?_)
  subst hg
  have hE : wkExt S S := wkExt.rf
  have hd : 1 ≤ 1 := Nat.le_refl _
  show wkGo l X 3 0 0 0 S [some (.ref l0A), some (.int l1I), some (.int l2I)] []
  unfold rL_drawn at h
  refine wk_aload_n C dL_drawn_0 rfl rfl ?_
  refine wk_iload_n C dL_drawn_1 rfl rfl ?_
  refine wk_sipush C (v := 150) dL_drawn_2 (by decide) ?_
  refine wk_irem C dL_drawn_5 (by decide) rfl ?_
  refine wk_callW C hR (As := [.ref l0A, .int (l1I - l1I / (150 : Int32) * (150 : Int32))]) (cnt := 2) (tL_cell (l := l) harg hW hl0A h) rfl (wkGoodW (List.mem_of_getElem? (i := 1) rfl) (List.mem_of_getElem? (i := 2) rfl) (List.mem_of_getElem? (i := 3) rfl) hbL_drawn_L_cell gdL_cell) (Nat.le_trans (by decide : 0 + 1 ≤ 1) hd) (by decide) ⟨by decide, by decide, by decide +kernel⟩ rfl rfl (Nat.le_of_ble_eq_true rfl) (Nat.le_refl 0) (Nat.le_refl 0) dL_drawn_6 (fun v' S2 hp => ?_)
  obtain ⟨v1, rfl, h, hWS2, hXS2⟩ := hp
  refine wk_ldc C (v := 104729) (List.mem_of_getElem? (i := 4) rfl) dL_drawn_9 ?_
  refine wk_iload_n C dL_drawn_11 rfl rfl ?_
  refine wk_imul C dL_drawn_12 rfl ?_
  refine wk_iadd C dL_drawn_13 rfl ?_
  refine wk_iload_n C dL_drawn_14 rfl rfl ?_
  refine wk_callW C hR (As := [.int (v1 + ((104729 : Int32) * l1I)), .int l2I]) (cnt := 2) (tL_chosen (l := l) hWS2  h) rfl (wkGoodW (List.mem_of_getElem? (i := 5) rfl) (List.mem_of_getElem? (i := 6) rfl) (List.mem_of_getElem? (i := 3) rfl) hbL_drawn_L_chosen gdL_chosen) (Nat.le_trans (by decide : 0 + 1 ≤ 1) hd) (by decide) ⟨by decide, by decide, by decide +kernel⟩ rfl rfl (Nat.le_of_ble_eq_true rfl) (Nat.le_refl 0) (Nat.le_refl 0) dL_drawn_15 (fun v' S7 hp => ?_)
  obtain ⟨v6, rfl, h, hWS7, hXS7⟩ := hp
  exact E _ _ _ _ _ _ (Nat.le_refl 0) (Nat.le_refl 0) dL_drawn_18 ⟨v6, rfl, h, hWS7, (wkExt.tr (wkExt.tr hE hXS2) hXS7)⟩
def wvL_pick : List Cond := .code yL_pick cL_pick 2 (some .int) :: (([] : List Cond) ++ (([]) ++ ([])))
theorem gdL_pick : ∀ w ∈ wvL_pick, wkGd w := wkGdC rfl (wkGdA (wkGdL (by decide +kernel)) (wkGdA (fun _ h => absurd h List.not_mem_nil) (fun _ h => absurd h List.not_mem_nil)))
def rL_pick (G : wkG) (F : Nat) (l0I : Int32) (l1A : Nat) (S : wPS) (Φ : (Int32 → wPS → Prop)) : Prop :=
  ¬ (l0I < 0 ∨ S.len l1A ≤ (l0I).toNatClampNeg) ∧ Φ (S.rI l1A (l0I).toNatClampNeg) S
set_option maxHeartbeats 4000000 in
set_option maxRecDepth 100000 in
theorem tL_pick {l : Launch} {g : wkG} {F : Nat}  {S : wPS} {l0I : Int32} {l1A : Nat} {Φ : (Int32 → wPS → Prop)} (hW : wkWF S) (hl1A : wkIs S l1A 13) (h : rL_pick g F l0I l1A S Φ) : wkMet l g yL_pick wvL_pick 0 0 0 [.int l0I, .ref l1A] S (fun v' S'' => ∃ v : Int32, v' = some (.int v) ∧ Φ v S'' ∧ wkWF S'' ∧ wkExt S S'') := by
  refine wkMet_of (ret := (some .int)) (by decide) rfl (Nat.le_of_ble_eq_true rfl) (fun X hg C hR E => ?_)
  subst hg
  have hE : wkExt S S := wkExt.rf
  have hd : 0 ≤ 0 := Nat.le_refl _
  show wkGo l X 2 0 0 0 S [some (.int l0I), some (.ref l1A)] []
  unfold rL_pick at h
  refine wk_aload_n C dL_pick_0 rfl rfl ?_
  refine wk_iload_n C dL_pick_1 rfl rfl ?_
  obtain ⟨i1, h⟩ := h
  refine wk_iald C hl1A.1 hl1A.2 i1 rfl dL_pick_2 ?_
  exact E _ _ _ _ _ _ (Nat.le_refl 0) (Nat.le_refl 0) dL_pick_3 ⟨(S.rI l1A (l0I).toNatClampNeg), rfl, h, hW, hE⟩
def wvL_limit : List Cond := .code yL_limit cL_limit 2 (some .int) :: (([.arrayClass .int, .methodLink RL 153 yL_pick, .static yL_pick, .initialized RL] : List Cond) ++ (([]) ++ (wvL_pick)))
theorem hbL_limit_L_pick : ∀ w ∈ wvL_pick, w ∈ wvL_limit := fun w h => List.mem_cons_of_mem _ (List.mem_append_right _ (List.mem_append_right _ h))
theorem gdL_limit : ∀ w ∈ wvL_limit, wkGd w := wkGdC rfl (wkGdA (wkGdL (by decide +kernel)) (wkGdA (fun _ h => absurd h List.not_mem_nil) gdL_pick))
def rL_limit (G : wkG) (F : Nat) (k n : Nat) (l0I : Int32) (l1I : Int32) (S : wPS) (Φ : (Int32 → wPS → Prop)) : Prop :=
  if l0I = 97 then (¬ (4 : Int32) < 0 ∧ 0 + 1 ≤ k ∧ 0 + ((4 : Int32)).toNatClampNeg ≤ n ∧ ((4 : Int32)).toNatClampNeg * 4 ≤ 536870912 ∧ ∀ q4 : Nat, ¬ q4 ∈ S.L → wkLt (wnI S q4 13 ((4 : Int32)).toNatClampNeg (fun _ => 0)) fun S5 => ¬ ((0 : Int32) < 0 ∨ S5.len q4 ≤ ((0 : Int32)).toNatClampNeg) ∧ wkLt (wuI S5 q4 (0 : Int32) (1 : Int32)) fun S7 => ¬ ((1 : Int32) < 0 ∨ S7.len q4 ≤ ((1 : Int32)).toNatClampNeg) ∧ wkLt (wuI S7 q4 (1 : Int32) (8 : Int32)) fun S9 => ¬ ((2 : Int32) < 0 ∨ S9.len q4 ≤ ((2 : Int32)).toNatClampNeg) ∧ wkLt (wuI S9 q4 (2 : Int32) (0 : Int32)) fun S11 => ¬ ((3 : Int32) < 0 ∨ S11.len q4 ≤ ((3 : Int32)).toNatClampNeg) ∧ wkLt (wuI S11 q4 (3 : Int32) (8 : Int32)) fun S13 => rL_pick G F l1I q4 S13 fun v14 S15 => Φ v14 S15) else if l0I = 98 then (¬ (4 : Int32) < 0 ∧ 0 + 1 ≤ k ∧ 0 + ((4 : Int32)).toNatClampNeg ≤ n ∧ ((4 : Int32)).toNatClampNeg * 4 ≤ 536870912 ∧ ∀ q21 : Nat, ¬ q21 ∈ S.L → wkLt (wnI S q21 13 ((4 : Int32)).toNatClampNeg (fun _ => 0)) fun S22 => ¬ ((0 : Int32) < 0 ∨ S22.len q21 ≤ ((0 : Int32)).toNatClampNeg) ∧ wkLt (wuI S22 q21 (0 : Int32) (1 : Int32)) fun S24 => ¬ ((1 : Int32) < 0 ∨ S24.len q21 ≤ ((1 : Int32)).toNatClampNeg) ∧ wkLt (wuI S24 q21 (1 : Int32) (7 : Int32)) fun S26 => ¬ ((2 : Int32) < 0 ∨ S26.len q21 ≤ ((2 : Int32)).toNatClampNeg) ∧ wkLt (wuI S26 q21 (2 : Int32) (0 : Int32)) fun S28 => ¬ ((3 : Int32) < 0 ∨ S28.len q21 ≤ ((3 : Int32)).toNatClampNeg) ∧ wkLt (wuI S28 q21 (3 : Int32) (7 : Int32)) fun S30 => rL_pick G F l1I q21 S30 fun v31 S32 => Φ v31 S32) else if l0I = 99 then (¬ (4 : Int32) < 0 ∧ 0 + 1 ≤ k ∧ 0 + ((4 : Int32)).toNatClampNeg ≤ n ∧ ((4 : Int32)).toNatClampNeg * 4 ≤ 536870912 ∧ ∀ q38 : Nat, ¬ q38 ∈ S.L → wkLt (wnI S q38 13 ((4 : Int32)).toNatClampNeg (fun _ => 0)) fun S39 => ¬ ((0 : Int32) < 0 ∨ S39.len q38 ≤ ((0 : Int32)).toNatClampNeg) ∧ wkLt (wuI S39 q38 (0 : Int32) (1 : Int32)) fun S41 => ¬ ((1 : Int32) < 0 ∨ S41.len q38 ≤ ((1 : Int32)).toNatClampNeg) ∧ wkLt (wuI S41 q38 (1 : Int32) (7 : Int32)) fun S43 => ¬ ((2 : Int32) < 0 ∨ S43.len q38 ≤ ((2 : Int32)).toNatClampNeg) ∧ wkLt (wuI S43 q38 (2 : Int32) (0 : Int32)) fun S45 => ¬ ((3 : Int32) < 0 ∨ S45.len q38 ≤ ((3 : Int32)).toNatClampNeg) ∧ wkLt (wuI S45 q38 (3 : Int32) (7 : Int32)) fun S47 => rL_pick G F l1I q38 S47 fun v48 S49 => Φ v48 S49) else if l0I = 100 then (¬ (4 : Int32) < 0 ∧ 0 + 1 ≤ k ∧ 0 + ((4 : Int32)).toNatClampNeg ≤ n ∧ ((4 : Int32)).toNatClampNeg * 4 ≤ 536870912 ∧ ∀ q55 : Nat, ¬ q55 ∈ S.L → wkLt (wnI S q55 13 ((4 : Int32)).toNatClampNeg (fun _ => 0)) fun S56 => ¬ ((0 : Int32) < 0 ∨ S56.len q55 ≤ ((0 : Int32)).toNatClampNeg) ∧ wkLt (wuI S56 q55 (0 : Int32) (1 : Int32)) fun S58 => ¬ ((1 : Int32) < 0 ∨ S58.len q55 ≤ ((1 : Int32)).toNatClampNeg) ∧ wkLt (wuI S58 q55 (1 : Int32) (4 : Int32)) fun S60 => ¬ ((2 : Int32) < 0 ∨ S60.len q55 ≤ ((2 : Int32)).toNatClampNeg) ∧ wkLt (wuI S60 q55 (2 : Int32) (-40 : Int32)) fun S62 => ¬ ((3 : Int32) < 0 ∨ S62.len q55 ≤ ((3 : Int32)).toNatClampNeg) ∧ wkLt (wuI S62 q55 (3 : Int32) (81 : Int32)) fun S64 => rL_pick G F l1I q55 S64 fun v65 S66 => Φ v65 S66) else if l0I = 101 then (¬ (4 : Int32) < 0 ∧ 0 + 1 ≤ k ∧ 0 + ((4 : Int32)).toNatClampNeg ≤ n ∧ ((4 : Int32)).toNatClampNeg * 4 ≤ 536870912 ∧ ∀ q72 : Nat, ¬ q72 ∈ S.L → wkLt (wnI S q72 13 ((4 : Int32)).toNatClampNeg (fun _ => 0)) fun S73 => ¬ ((0 : Int32) < 0 ∨ S73.len q72 ≤ ((0 : Int32)).toNatClampNeg) ∧ wkLt (wuI S73 q72 (0 : Int32) (1 : Int32)) fun S75 => ¬ ((1 : Int32) < 0 ∨ S75.len q72 ≤ ((1 : Int32)).toNatClampNeg) ∧ wkLt (wuI S75 q72 (1 : Int32) (7 : Int32)) fun S77 => ¬ ((2 : Int32) < 0 ∨ S77.len q72 ≤ ((2 : Int32)).toNatClampNeg) ∧ wkLt (wuI S77 q72 (2 : Int32) (0 : Int32)) fun S79 => ¬ ((3 : Int32) < 0 ∨ S79.len q72 ≤ ((3 : Int32)).toNatClampNeg) ∧ wkLt (wuI S79 q72 (3 : Int32) (7 : Int32)) fun S81 => rL_pick G F l1I q72 S81 fun v82 S83 => Φ v82 S83) else if l0I = 102 then (¬ (4 : Int32) < 0 ∧ 0 + 1 ≤ k ∧ 0 + ((4 : Int32)).toNatClampNeg ≤ n ∧ ((4 : Int32)).toNatClampNeg * 4 ≤ 536870912 ∧ ∀ q89 : Nat, ¬ q89 ∈ S.L → wkLt (wnI S q89 13 ((4 : Int32)).toNatClampNeg (fun _ => 0)) fun S90 => ¬ ((0 : Int32) < 0 ∨ S90.len q89 ≤ ((0 : Int32)).toNatClampNeg) ∧ wkLt (wuI S90 q89 (0 : Int32) (2 : Int32)) fun S92 => ¬ ((1 : Int32) < 0 ∨ S92.len q89 ≤ ((1 : Int32)).toNatClampNeg) ∧ wkLt (wuI S92 q89 (1 : Int32) (6 : Int32)) fun S94 => ¬ ((2 : Int32) < 0 ∨ S94.len q89 ≤ ((2 : Int32)).toNatClampNeg) ∧ wkLt (wuI S94 q89 (2 : Int32) (0 : Int32)) fun S96 => ¬ ((3 : Int32) < 0 ∨ S96.len q89 ≤ ((3 : Int32)).toNatClampNeg) ∧ wkLt (wuI S96 q89 (3 : Int32) (14 : Int32)) fun S98 => rL_pick G F l1I q89 S98 fun v99 S100 => Φ v99 S100) else if l0I = 103 then (¬ (4 : Int32) < 0 ∧ 0 + 1 ≤ k ∧ 0 + ((4 : Int32)).toNatClampNeg ≤ n ∧ ((4 : Int32)).toNatClampNeg * 4 ≤ 536870912 ∧ ∀ q106 : Nat, ¬ q106 ∈ S.L → wkLt (wnI S q106 13 ((4 : Int32)).toNatClampNeg (fun _ => 0)) fun S107 => ¬ ((0 : Int32) < 0 ∨ S107.len q106 ≤ ((0 : Int32)).toNatClampNeg) ∧ wkLt (wuI S107 q106 (0 : Int32) (2 : Int32)) fun S109 => ¬ ((1 : Int32) < 0 ∨ S109.len q106 ≤ ((1 : Int32)).toNatClampNeg) ∧ wkLt (wuI S109 q106 (1 : Int32) (5 : Int32)) fun S111 => ¬ ((2 : Int32) < 0 ∨ S111.len q106 ≤ ((2 : Int32)).toNatClampNeg) ∧ wkLt (wuI S111 q106 (2 : Int32) (0 : Int32)) fun S113 => ¬ ((3 : Int32) < 0 ∨ S113.len q106 ≤ ((3 : Int32)).toNatClampNeg) ∧ wkLt (wuI S113 q106 (3 : Int32) (5 : Int32)) fun S115 => rL_pick G F l1I q106 S115 fun v116 S117 => Φ v116 S117) else if l0I = 104 then (¬ (4 : Int32) < 0 ∧ 0 + 1 ≤ k ∧ 0 + ((4 : Int32)).toNatClampNeg ≤ n ∧ ((4 : Int32)).toNatClampNeg * 4 ≤ 536870912 ∧ ∀ q123 : Nat, ¬ q123 ∈ S.L → wkLt (wnI S q123 13 ((4 : Int32)).toNatClampNeg (fun _ => 0)) fun S124 => ¬ ((0 : Int32) < 0 ∨ S124.len q123 ≤ ((0 : Int32)).toNatClampNeg) ∧ wkLt (wuI S124 q123 (0 : Int32) (1 : Int32)) fun S126 => ¬ ((1 : Int32) < 0 ∨ S126.len q123 ≤ ((1 : Int32)).toNatClampNeg) ∧ wkLt (wuI S126 q123 (1 : Int32) (7 : Int32)) fun S128 => ¬ ((2 : Int32) < 0 ∨ S128.len q123 ≤ ((2 : Int32)).toNatClampNeg) ∧ wkLt (wuI S128 q123 (2 : Int32) (0 : Int32)) fun S130 => ¬ ((3 : Int32) < 0 ∨ S130.len q123 ≤ ((3 : Int32)).toNatClampNeg) ∧ wkLt (wuI S130 q123 (3 : Int32) (7 : Int32)) fun S132 => rL_pick G F l1I q123 S132 fun v133 S134 => Φ v133 S134) else if l0I = 105 then (¬ (4 : Int32) < 0 ∧ 0 + 1 ≤ k ∧ 0 + ((4 : Int32)).toNatClampNeg ≤ n ∧ ((4 : Int32)).toNatClampNeg * 4 ≤ 536870912 ∧ ∀ q140 : Nat, ¬ q140 ∈ S.L → wkLt (wnI S q140 13 ((4 : Int32)).toNatClampNeg (fun _ => 0)) fun S141 => ¬ ((0 : Int32) < 0 ∨ S141.len q140 ≤ ((0 : Int32)).toNatClampNeg) ∧ wkLt (wuI S141 q140 (0 : Int32) (1 : Int32)) fun S143 => ¬ ((1 : Int32) < 0 ∨ S143.len q140 ≤ ((1 : Int32)).toNatClampNeg) ∧ wkLt (wuI S143 q140 (1 : Int32) (7 : Int32)) fun S145 => ¬ ((2 : Int32) < 0 ∨ S145.len q140 ≤ ((2 : Int32)).toNatClampNeg) ∧ wkLt (wuI S145 q140 (2 : Int32) (0 : Int32)) fun S147 => ¬ ((3 : Int32) < 0 ∨ S147.len q140 ≤ ((3 : Int32)).toNatClampNeg) ∧ wkLt (wuI S147 q140 (3 : Int32) (7 : Int32)) fun S149 => rL_pick G F l1I q140 S149 fun v150 S151 => Φ v150 S151) else if l0I = 106 then (¬ (4 : Int32) < 0 ∧ 0 + 1 ≤ k ∧ 0 + ((4 : Int32)).toNatClampNeg ≤ n ∧ ((4 : Int32)).toNatClampNeg * 4 ≤ 536870912 ∧ ∀ q157 : Nat, ¬ q157 ∈ S.L → wkLt (wnI S q157 13 ((4 : Int32)).toNatClampNeg (fun _ => 0)) fun S158 => ¬ ((0 : Int32) < 0 ∨ S158.len q157 ≤ ((0 : Int32)).toNatClampNeg) ∧ wkLt (wuI S158 q157 (0 : Int32) (1 : Int32)) fun S160 => ¬ ((1 : Int32) < 0 ∨ S160.len q157 ≤ ((1 : Int32)).toNatClampNeg) ∧ wkLt (wuI S160 q157 (1 : Int32) (7 : Int32)) fun S162 => ¬ ((2 : Int32) < 0 ∨ S162.len q157 ≤ ((2 : Int32)).toNatClampNeg) ∧ wkLt (wuI S162 q157 (2 : Int32) (0 : Int32)) fun S164 => ¬ ((3 : Int32) < 0 ∨ S164.len q157 ≤ ((3 : Int32)).toNatClampNeg) ∧ wkLt (wuI S164 q157 (3 : Int32) (7 : Int32)) fun S166 => rL_pick G F l1I q157 S166 fun v167 S168 => Φ v167 S168) else if l0I = 107 then (¬ (4 : Int32) < 0 ∧ 0 + 1 ≤ k ∧ 0 + ((4 : Int32)).toNatClampNeg ≤ n ∧ ((4 : Int32)).toNatClampNeg * 4 ≤ 536870912 ∧ ∀ q174 : Nat, ¬ q174 ∈ S.L → wkLt (wnI S q174 13 ((4 : Int32)).toNatClampNeg (fun _ => 0)) fun S175 => ¬ ((0 : Int32) < 0 ∨ S175.len q174 ≤ ((0 : Int32)).toNatClampNeg) ∧ wkLt (wuI S175 q174 (0 : Int32) (1 : Int32)) fun S177 => ¬ ((1 : Int32) < 0 ∨ S177.len q174 ≤ ((1 : Int32)).toNatClampNeg) ∧ wkLt (wuI S177 q174 (1 : Int32) (7 : Int32)) fun S179 => ¬ ((2 : Int32) < 0 ∨ S179.len q174 ≤ ((2 : Int32)).toNatClampNeg) ∧ wkLt (wuI S179 q174 (2 : Int32) (0 : Int32)) fun S181 => ¬ ((3 : Int32) < 0 ∨ S181.len q174 ≤ ((3 : Int32)).toNatClampNeg) ∧ wkLt (wuI S181 q174 (3 : Int32) (7 : Int32)) fun S183 => rL_pick G F l1I q174 S183 fun v184 S185 => Φ v184 S185) else if l0I = 108 then (¬ (4 : Int32) < 0 ∧ 0 + 1 ≤ k ∧ 0 + ((4 : Int32)).toNatClampNeg ≤ n ∧ ((4 : Int32)).toNatClampNeg * 4 ≤ 536870912 ∧ ∀ q191 : Nat, ¬ q191 ∈ S.L → wkLt (wnI S q191 13 ((4 : Int32)).toNatClampNeg (fun _ => 0)) fun S192 => ¬ ((0 : Int32) < 0 ∨ S192.len q191 ≤ ((0 : Int32)).toNatClampNeg) ∧ wkLt (wuI S192 q191 (0 : Int32) (1 : Int32)) fun S194 => ¬ ((1 : Int32) < 0 ∨ S194.len q191 ≤ ((1 : Int32)).toNatClampNeg) ∧ wkLt (wuI S194 q191 (1 : Int32) (4 : Int32)) fun S196 => ¬ ((2 : Int32) < 0 ∨ S196.len q191 ≤ ((2 : Int32)).toNatClampNeg) ∧ wkLt (wuI S196 q191 (2 : Int32) (0 : Int32)) fun S198 => ¬ ((3 : Int32) < 0 ∨ S198.len q191 ≤ ((3 : Int32)).toNatClampNeg) ∧ wkLt (wuI S198 q191 (3 : Int32) (41 : Int32)) fun S200 => rL_pick G F l1I q191 S200 fun v201 S202 => Φ v201 S202) else if l0I = 109 then (¬ (4 : Int32) < 0 ∧ 0 + 1 ≤ k ∧ 0 + ((4 : Int32)).toNatClampNeg ≤ n ∧ ((4 : Int32)).toNatClampNeg * 4 ≤ 536870912 ∧ ∀ q208 : Nat, ¬ q208 ∈ S.L → wkLt (wnI S q208 13 ((4 : Int32)).toNatClampNeg (fun _ => 0)) fun S209 => ¬ ((0 : Int32) < 0 ∨ S209.len q208 ≤ ((0 : Int32)).toNatClampNeg) ∧ wkLt (wuI S209 q208 (0 : Int32) (1 : Int32)) fun S211 => ¬ ((1 : Int32) < 0 ∨ S211.len q208 ≤ ((1 : Int32)).toNatClampNeg) ∧ wkLt (wuI S211 q208 (1 : Int32) (9 : Int32)) fun S213 => ¬ ((2 : Int32) < 0 ∨ S213.len q208 ≤ ((2 : Int32)).toNatClampNeg) ∧ wkLt (wuI S213 q208 (2 : Int32) (0 : Int32)) fun S215 => ¬ ((3 : Int32) < 0 ∨ S215.len q208 ≤ ((3 : Int32)).toNatClampNeg) ∧ wkLt (wuI S215 q208 (3 : Int32) (10 : Int32)) fun S217 => rL_pick G F l1I q208 S217 fun v218 S219 => Φ v218 S219) else if l0I = 110 then (¬ (4 : Int32) < 0 ∧ 0 + 1 ≤ k ∧ 0 + ((4 : Int32)).toNatClampNeg ≤ n ∧ ((4 : Int32)).toNatClampNeg * 4 ≤ 536870912 ∧ ∀ q225 : Nat, ¬ q225 ∈ S.L → wkLt (wnI S q225 13 ((4 : Int32)).toNatClampNeg (fun _ => 0)) fun S226 => ¬ ((0 : Int32) < 0 ∨ S226.len q225 ≤ ((0 : Int32)).toNatClampNeg) ∧ wkLt (wuI S226 q225 (0 : Int32) (1 : Int32)) fun S228 => ¬ ((1 : Int32) < 0 ∨ S228.len q225 ≤ ((1 : Int32)).toNatClampNeg) ∧ wkLt (wuI S228 q225 (1 : Int32) (1 : Int32)) fun S230 => ¬ ((2 : Int32) < 0 ∨ S230.len q225 ≤ ((2 : Int32)).toNatClampNeg) ∧ wkLt (wuI S230 q225 (2 : Int32) (2 : Int32)) fun S232 => ¬ ((3 : Int32) < 0 ∨ S232.len q225 ≤ ((3 : Int32)).toNatClampNeg) ∧ wkLt (wuI S232 q225 (3 : Int32) (500 : Int32)) fun S234 => rL_pick G F l1I q225 S234 fun v235 S236 => Φ v235 S236) else if l0I = 111 then (¬ (4 : Int32) < 0 ∧ 0 + 1 ≤ k ∧ 0 + ((4 : Int32)).toNatClampNeg ≤ n ∧ ((4 : Int32)).toNatClampNeg * 4 ≤ 536870912 ∧ ∀ q242 : Nat, ¬ q242 ∈ S.L → wkLt (wnI S q242 13 ((4 : Int32)).toNatClampNeg (fun _ => 0)) fun S243 => ¬ ((0 : Int32) < 0 ∨ S243.len q242 ≤ ((0 : Int32)).toNatClampNeg) ∧ wkLt (wuI S243 q242 (0 : Int32) (1 : Int32)) fun S245 => ¬ ((1 : Int32) < 0 ∨ S245.len q242 ≤ ((1 : Int32)).toNatClampNeg) ∧ wkLt (wuI S245 q242 (1 : Int32) (7 : Int32)) fun S247 => ¬ ((2 : Int32) < 0 ∨ S247.len q242 ≤ ((2 : Int32)).toNatClampNeg) ∧ wkLt (wuI S247 q242 (2 : Int32) (0 : Int32)) fun S249 => ¬ ((3 : Int32) < 0 ∨ S249.len q242 ≤ ((3 : Int32)).toNatClampNeg) ∧ wkLt (wuI S249 q242 (3 : Int32) (7 : Int32)) fun S251 => rL_pick G F l1I q242 S251 fun v252 S253 => Φ v252 S253) else if l0I = 112 then (¬ (4 : Int32) < 0 ∧ 0 + 1 ≤ k ∧ 0 + ((4 : Int32)).toNatClampNeg ≤ n ∧ ((4 : Int32)).toNatClampNeg * 4 ≤ 536870912 ∧ ∀ q259 : Nat, ¬ q259 ∈ S.L → wkLt (wnI S q259 13 ((4 : Int32)).toNatClampNeg (fun _ => 0)) fun S260 => ¬ ((0 : Int32) < 0 ∨ S260.len q259 ≤ ((0 : Int32)).toNatClampNeg) ∧ wkLt (wuI S260 q259 (0 : Int32) (1 : Int32)) fun S262 => ¬ ((1 : Int32) < 0 ∨ S262.len q259 ≤ ((1 : Int32)).toNatClampNeg) ∧ wkLt (wuI S262 q259 (1 : Int32) (7 : Int32)) fun S264 => ¬ ((2 : Int32) < 0 ∨ S264.len q259 ≤ ((2 : Int32)).toNatClampNeg) ∧ wkLt (wuI S264 q259 (2 : Int32) (0 : Int32)) fun S266 => ¬ ((3 : Int32) < 0 ∨ S266.len q259 ≤ ((3 : Int32)).toNatClampNeg) ∧ wkLt (wuI S266 q259 (3 : Int32) (12 : Int32)) fun S268 => rL_pick G F l1I q259 S268 fun v269 S270 => Φ v269 S270) else if l0I = 113 then (¬ (4 : Int32) < 0 ∧ 0 + 1 ≤ k ∧ 0 + ((4 : Int32)).toNatClampNeg ≤ n ∧ ((4 : Int32)).toNatClampNeg * 4 ≤ 536870912 ∧ ∀ q276 : Nat, ¬ q276 ∈ S.L → wkLt (wnI S q276 13 ((4 : Int32)).toNatClampNeg (fun _ => 0)) fun S277 => ¬ ((0 : Int32) < 0 ∨ S277.len q276 ≤ ((0 : Int32)).toNatClampNeg) ∧ wkLt (wuI S277 q276 (0 : Int32) (1 : Int32)) fun S279 => ¬ ((1 : Int32) < 0 ∨ S279.len q276 ≤ ((1 : Int32)).toNatClampNeg) ∧ wkLt (wuI S279 q276 (1 : Int32) (7 : Int32)) fun S281 => ¬ ((2 : Int32) < 0 ∨ S281.len q276 ≤ ((2 : Int32)).toNatClampNeg) ∧ wkLt (wuI S281 q276 (2 : Int32) (0 : Int32)) fun S283 => ¬ ((3 : Int32) < 0 ∨ S283.len q276 ≤ ((3 : Int32)).toNatClampNeg) ∧ wkLt (wuI S283 q276 (3 : Int32) (7 : Int32)) fun S285 => rL_pick G F l1I q276 S285 fun v286 S287 => Φ v286 S287) else if l0I = 114 then (¬ (4 : Int32) < 0 ∧ 0 + 1 ≤ k ∧ 0 + ((4 : Int32)).toNatClampNeg ≤ n ∧ ((4 : Int32)).toNatClampNeg * 4 ≤ 536870912 ∧ ∀ q293 : Nat, ¬ q293 ∈ S.L → wkLt (wnI S q293 13 ((4 : Int32)).toNatClampNeg (fun _ => 0)) fun S294 => ¬ ((0 : Int32) < 0 ∨ S294.len q293 ≤ ((0 : Int32)).toNatClampNeg) ∧ wkLt (wuI S294 q293 (0 : Int32) (1 : Int32)) fun S296 => ¬ ((1 : Int32) < 0 ∨ S296.len q293 ≤ ((1 : Int32)).toNatClampNeg) ∧ wkLt (wuI S296 q293 (1 : Int32) (1 : Int32)) fun S298 => ¬ ((2 : Int32) < 0 ∨ S298.len q293 ≤ ((2 : Int32)).toNatClampNeg) ∧ wkLt (wuI S298 q293 (2 : Int32) (0 : Int32)) fun S300 => ¬ ((3 : Int32) < 0 ∨ S300.len q293 ≤ ((3 : Int32)).toNatClampNeg) ∧ wkLt (wuI S300 q293 (3 : Int32) (4 : Int32)) fun S302 => rL_pick G F l1I q293 S302 fun v303 S304 => Φ v303 S304) else if l0I = 115 then (¬ (4 : Int32) < 0 ∧ 0 + 1 ≤ k ∧ 0 + ((4 : Int32)).toNatClampNeg ≤ n ∧ ((4 : Int32)).toNatClampNeg * 4 ≤ 536870912 ∧ ∀ q310 : Nat, ¬ q310 ∈ S.L → wkLt (wnI S q310 13 ((4 : Int32)).toNatClampNeg (fun _ => 0)) fun S311 => ¬ ((0 : Int32) < 0 ∨ S311.len q310 ≤ ((0 : Int32)).toNatClampNeg) ∧ wkLt (wuI S311 q310 (0 : Int32) (1 : Int32)) fun S313 => ¬ ((1 : Int32) < 0 ∨ S313.len q310 ≤ ((1 : Int32)).toNatClampNeg) ∧ wkLt (wuI S313 q310 (1 : Int32) (6 : Int32)) fun S315 => ¬ ((2 : Int32) < 0 ∨ S315.len q310 ≤ ((2 : Int32)).toNatClampNeg) ∧ wkLt (wuI S315 q310 (2 : Int32) (0 : Int32)) fun S317 => ¬ ((3 : Int32) < 0 ∨ S317.len q310 ≤ ((3 : Int32)).toNatClampNeg) ∧ wkLt (wuI S317 q310 (3 : Int32) (7 : Int32)) fun S319 => rL_pick G F l1I q310 S319 fun v320 S321 => Φ v320 S321) else if l0I = 116 then (¬ (4 : Int32) < 0 ∧ 0 + 1 ≤ k ∧ 0 + ((4 : Int32)).toNatClampNeg ≤ n ∧ ((4 : Int32)).toNatClampNeg * 4 ≤ 536870912 ∧ ∀ q327 : Nat, ¬ q327 ∈ S.L → wkLt (wnI S q327 13 ((4 : Int32)).toNatClampNeg (fun _ => 0)) fun S328 => ¬ ((0 : Int32) < 0 ∨ S328.len q327 ≤ ((0 : Int32)).toNatClampNeg) ∧ wkLt (wuI S328 q327 (0 : Int32) (1 : Int32)) fun S330 => ¬ ((1 : Int32) < 0 ∨ S330.len q327 ≤ ((1 : Int32)).toNatClampNeg) ∧ wkLt (wuI S330 q327 (1 : Int32) (7 : Int32)) fun S332 => ¬ ((2 : Int32) < 0 ∨ S332.len q327 ≤ ((2 : Int32)).toNatClampNeg) ∧ wkLt (wuI S332 q327 (2 : Int32) (0 : Int32)) fun S334 => ¬ ((3 : Int32) < 0 ∨ S334.len q327 ≤ ((3 : Int32)).toNatClampNeg) ∧ wkLt (wuI S334 q327 (3 : Int32) (7 : Int32)) fun S336 => rL_pick G F l1I q327 S336 fun v337 S338 => Φ v337 S338) else if l0I = 117 then (¬ (4 : Int32) < 0 ∧ 0 + 1 ≤ k ∧ 0 + ((4 : Int32)).toNatClampNeg ≤ n ∧ ((4 : Int32)).toNatClampNeg * 4 ≤ 536870912 ∧ ∀ q344 : Nat, ¬ q344 ∈ S.L → wkLt (wnI S q344 13 ((4 : Int32)).toNatClampNeg (fun _ => 0)) fun S345 => ¬ ((0 : Int32) < 0 ∨ S345.len q344 ≤ ((0 : Int32)).toNatClampNeg) ∧ wkLt (wuI S345 q344 (0 : Int32) (1 : Int32)) fun S347 => ¬ ((1 : Int32) < 0 ∨ S347.len q344 ≤ ((1 : Int32)).toNatClampNeg) ∧ wkLt (wuI S347 q344 (1 : Int32) (7 : Int32)) fun S349 => ¬ ((2 : Int32) < 0 ∨ S349.len q344 ≤ ((2 : Int32)).toNatClampNeg) ∧ wkLt (wuI S349 q344 (2 : Int32) (0 : Int32)) fun S351 => ¬ ((3 : Int32) < 0 ∨ S351.len q344 ≤ ((3 : Int32)).toNatClampNeg) ∧ wkLt (wuI S351 q344 (3 : Int32) (7 : Int32)) fun S353 => rL_pick G F l1I q344 S353 fun v354 S355 => Φ v354 S355) else if l0I = 118 then (¬ (4 : Int32) < 0 ∧ 0 + 1 ≤ k ∧ 0 + ((4 : Int32)).toNatClampNeg ≤ n ∧ ((4 : Int32)).toNatClampNeg * 4 ≤ 536870912 ∧ ∀ q361 : Nat, ¬ q361 ∈ S.L → wkLt (wnI S q361 13 ((4 : Int32)).toNatClampNeg (fun _ => 0)) fun S362 => ¬ ((0 : Int32) < 0 ∨ S362.len q361 ≤ ((0 : Int32)).toNatClampNeg) ∧ wkLt (wuI S362 q361 (0 : Int32) (1 : Int32)) fun S364 => ¬ ((1 : Int32) < 0 ∨ S364.len q361 ≤ ((1 : Int32)).toNatClampNeg) ∧ wkLt (wuI S364 q361 (1 : Int32) (7 : Int32)) fun S366 => ¬ ((2 : Int32) < 0 ∨ S366.len q361 ≤ ((2 : Int32)).toNatClampNeg) ∧ wkLt (wuI S366 q361 (2 : Int32) (0 : Int32)) fun S368 => ¬ ((3 : Int32) < 0 ∨ S368.len q361 ≤ ((3 : Int32)).toNatClampNeg) ∧ wkLt (wuI S368 q361 (3 : Int32) (7 : Int32)) fun S370 => rL_pick G F l1I q361 S370 fun v371 S372 => Φ v371 S372) else if l0I = 119 then (¬ (4 : Int32) < 0 ∧ 0 + 1 ≤ k ∧ 0 + ((4 : Int32)).toNatClampNeg ≤ n ∧ ((4 : Int32)).toNatClampNeg * 4 ≤ 536870912 ∧ ∀ q378 : Nat, ¬ q378 ∈ S.L → wkLt (wnI S q378 13 ((4 : Int32)).toNatClampNeg (fun _ => 0)) fun S379 => ¬ ((0 : Int32) < 0 ∨ S379.len q378 ≤ ((0 : Int32)).toNatClampNeg) ∧ wkLt (wuI S379 q378 (0 : Int32) (1 : Int32)) fun S381 => ¬ ((1 : Int32) < 0 ∨ S381.len q378 ≤ ((1 : Int32)).toNatClampNeg) ∧ wkLt (wuI S381 q378 (1 : Int32) (1 : Int32)) fun S383 => ¬ ((2 : Int32) < 0 ∨ S383.len q378 ≤ ((2 : Int32)).toNatClampNeg) ∧ wkLt (wuI S383 q378 (2 : Int32) (0 : Int32)) fun S385 => ¬ ((3 : Int32) < 0 ∨ S385.len q378 ≤ ((3 : Int32)).toNatClampNeg) ∧ wkLt (wuI S385 q378 (3 : Int32) (8 : Int32)) fun S387 => rL_pick G F l1I q378 S387 fun v388 S389 => Φ v388 S389) else (¬ (4 : Int32) < 0 ∧ 0 + 1 ≤ k ∧ 0 + ((4 : Int32)).toNatClampNeg ≤ n ∧ ((4 : Int32)).toNatClampNeg * 4 ≤ 536870912 ∧ ∀ q394 : Nat, ¬ q394 ∈ S.L → wkLt (wnI S q394 13 ((4 : Int32)).toNatClampNeg (fun _ => 0)) fun S395 => ¬ ((0 : Int32) < 0 ∨ S395.len q394 ≤ ((0 : Int32)).toNatClampNeg) ∧ wkLt (wuI S395 q394 (0 : Int32) (1 : Int32)) fun S397 => ¬ ((1 : Int32) < 0 ∨ S397.len q394 ≤ ((1 : Int32)).toNatClampNeg) ∧ wkLt (wuI S397 q394 (1 : Int32) (7 : Int32)) fun S399 => ¬ ((2 : Int32) < 0 ∨ S399.len q394 ≤ ((2 : Int32)).toNatClampNeg) ∧ wkLt (wuI S399 q394 (2 : Int32) (0 : Int32)) fun S401 => ¬ ((3 : Int32) < 0 ∨ S401.len q394 ≤ ((3 : Int32)).toNatClampNeg) ∧ wkLt (wuI S401 q394 (3 : Int32) (7 : Int32)) fun S403 => rL_pick G F l1I q394 S403 fun v404 S405 => Φ v404 S405)
set_option maxHeartbeats 4000000 in
set_option maxRecDepth 100000 in
theorem tL_limit {l : Launch} {g : wkG} {F : Nat} {k n : Nat}  {S : wPS} {l0I : Int32} {l1I : Int32} {Φ : (Int32 → wPS → Prop)} (hW : wkWF S)  (h : rL_limit g F k n l0I l1I S Φ) : wkMet l g yL_limit wvL_limit 1 k n [.int l0I, .int l1I] S (fun v' S'' => ∃ v : Int32, v' = some (.int v) ∧ Φ v S'' ∧ wkWF S'' ∧ wkExt S S'') := by
  refine wkMet_of (ret := (some .int)) (by decide) rfl (Nat.le_of_ble_eq_true rfl) (fun X hg C hR E => ?_)
  subst hg
  have hE : wkExt S S := wkExt.rf
  have hd : 1 ≤ 1 := Nat.le_refl _
  show wkGo l X 2 0 0 0 S [some (.int l0I), some (.int l1I)] []
  unfold rL_limit at h
  refine wk_iload_n C dL_limit_0 rfl rfl ?_
  by_cases c2 : l0I = 97
  · rw [if_pos c2] at h
    rw [c2]
    refine wk_tabIn C (tgt := 362) (off := 361) dL_limit_1 (by decide) (by decide) (by decide) (by decide) ?_
    refine wk_iload_n C dL_limit_362 rfl rfl ?_
    refine wk_iconst C (v := 4) dL_limit_363 (by decide) ?_
    obtain ⟨h3a, h3b, h3c, h3d, h⟩ := h
    refine wk_newI C hR (List.mem_of_getElem? (i := 1) rfl) h3a h3b h3c h3d dL_limit_364 (fun q4 h3e => ?_)
    obtain ⟨S5, eS5, h⟩ := wkLt_some (h q4 h3e)
    rw [← eS5]
    obtain ⟨hWS5, hXS5, hIS5⟩ := wkWF_newI eS5 hW h3e
    refine wk_dup C dL_limit_366 rfl ?_
    refine wk_iconst C (v := 0) dL_limit_367 (by decide) ?_
    refine wk_iconst C (v := 1) dL_limit_368 (by decide) ?_
    obtain ⟨i6, h⟩ := h
    obtain ⟨S7, eS7, h⟩ := wkLt_some h
    refine wk_iast C hIS5.1 hIS5.2 i6 eS7.symm dL_limit_369 ?_
    have hWS7 : wkWF S7 := by rw [eS7]; exact hWS5
    have hXS7 : wkExt S5 S7 := by rw [eS7]; exact wkExt.rf
    refine wk_dup C dL_limit_370 rfl ?_
    refine wk_iconst C (v := 1) dL_limit_371 (by decide) ?_
    refine wk_bipush C (v := 8) dL_limit_372 (by decide) ?_
    obtain ⟨i8, h⟩ := h
    obtain ⟨S9, eS9, h⟩ := wkLt_some h
    refine wk_iast C (hXS7 _ _ hIS5).1 (hXS7 _ _ hIS5).2 i8 eS9.symm dL_limit_374 ?_
    have hWS9 : wkWF S9 := by rw [eS9]; exact hWS7
    have hXS9 : wkExt S7 S9 := by rw [eS9]; exact wkExt.rf
    refine wk_dup C dL_limit_375 rfl ?_
    refine wk_iconst C (v := 2) dL_limit_376 (by decide) ?_
    refine wk_iconst C (v := 0) dL_limit_377 (by decide) ?_
    obtain ⟨i10, h⟩ := h
    obtain ⟨S11, eS11, h⟩ := wkLt_some h
    refine wk_iast C (hXS9 _ _ (hXS7 _ _ hIS5)).1 (hXS9 _ _ (hXS7 _ _ hIS5)).2 i10 eS11.symm dL_limit_378 ?_
    have hWS11 : wkWF S11 := by rw [eS11]; exact hWS9
    have hXS11 : wkExt S9 S11 := by rw [eS11]; exact wkExt.rf
    refine wk_dup C dL_limit_379 rfl ?_
    refine wk_iconst C (v := 3) dL_limit_380 (by decide) ?_
    refine wk_bipush C (v := 8) dL_limit_381 (by decide) ?_
    obtain ⟨i12, h⟩ := h
    obtain ⟨S13, eS13, h⟩ := wkLt_some h
    refine wk_iast C (hXS11 _ _ (hXS9 _ _ (hXS7 _ _ hIS5))).1 (hXS11 _ _ (hXS9 _ _ (hXS7 _ _ hIS5))).2 i12 eS13.symm dL_limit_383 ?_
    have hWS13 : wkWF S13 := by rw [eS13]; exact hWS11
    have hXS13 : wkExt S11 S13 := by rw [eS13]; exact wkExt.rf
    refine wk_callW C hR (As := [.int l1I, .ref q4]) (cnt := 2) (tL_pick (l := l) hWS13 (hXS13 _ _ (hXS11 _ _ (hXS9 _ _ (hXS7 _ _ hIS5)))) h) rfl (wkGoodW (List.mem_of_getElem? (i := 2) rfl) (List.mem_of_getElem? (i := 3) rfl) (List.mem_of_getElem? (i := 4) rfl) hbL_limit_L_pick gdL_pick) (Nat.le_trans (by decide : 0 + 1 ≤ 1) hd) (by decide) ⟨by decide, by decide, by decide +kernel⟩ rfl rfl (Nat.le_of_ble_eq_true rfl) h3b h3c dL_limit_384 (fun v' S15 hp => ?_)
    obtain ⟨v14, rfl, h, hWS15, hXS15⟩ := hp
    exact E _ _ _ _ _ _ h3b h3c dL_limit_387 ⟨v14, rfl, h, hWS15, (wkExt.tr (wkExt.tr (wkExt.tr (wkExt.tr (wkExt.tr (wkExt.tr hE hXS5) hXS7) hXS9) hXS11) hXS13) hXS15)⟩
  · rw [if_neg c2] at h
    by_cases c19 : l0I = 98
    · rw [if_pos c19] at h
      rw [c19]
      refine wk_tabIn C (tgt := 388) (off := 387) dL_limit_1 (by decide) (by decide) (by decide) (by decide) ?_
      refine wk_iload_n C dL_limit_388 rfl rfl ?_
      refine wk_iconst C (v := 4) dL_limit_389 (by decide) ?_
      obtain ⟨h20a, h20b, h20c, h20d, h⟩ := h
      refine wk_newI C hR (List.mem_of_getElem? (i := 1) rfl) h20a h20b h20c h20d dL_limit_390 (fun q21 h20e => ?_)
      obtain ⟨S22, eS22, h⟩ := wkLt_some (h q21 h20e)
      rw [← eS22]
      obtain ⟨hWS22, hXS22, hIS22⟩ := wkWF_newI eS22 hW h20e
      refine wk_dup C dL_limit_392 rfl ?_
      refine wk_iconst C (v := 0) dL_limit_393 (by decide) ?_
      refine wk_iconst C (v := 1) dL_limit_394 (by decide) ?_
      obtain ⟨i23, h⟩ := h
      obtain ⟨S24, eS24, h⟩ := wkLt_some h
      refine wk_iast C hIS22.1 hIS22.2 i23 eS24.symm dL_limit_395 ?_
      have hWS24 : wkWF S24 := by rw [eS24]; exact hWS22
      have hXS24 : wkExt S22 S24 := by rw [eS24]; exact wkExt.rf
      refine wk_dup C dL_limit_396 rfl ?_
      refine wk_iconst C (v := 1) dL_limit_397 (by decide) ?_
      refine wk_bipush C (v := 7) dL_limit_398 (by decide) ?_
      obtain ⟨i25, h⟩ := h
      obtain ⟨S26, eS26, h⟩ := wkLt_some h
      refine wk_iast C (hXS24 _ _ hIS22).1 (hXS24 _ _ hIS22).2 i25 eS26.symm dL_limit_400 ?_
      have hWS26 : wkWF S26 := by rw [eS26]; exact hWS24
      have hXS26 : wkExt S24 S26 := by rw [eS26]; exact wkExt.rf
      refine wk_dup C dL_limit_401 rfl ?_
      refine wk_iconst C (v := 2) dL_limit_402 (by decide) ?_
      refine wk_iconst C (v := 0) dL_limit_403 (by decide) ?_
      obtain ⟨i27, h⟩ := h
      obtain ⟨S28, eS28, h⟩ := wkLt_some h
      refine wk_iast C (hXS26 _ _ (hXS24 _ _ hIS22)).1 (hXS26 _ _ (hXS24 _ _ hIS22)).2 i27 eS28.symm dL_limit_404 ?_
      have hWS28 : wkWF S28 := by rw [eS28]; exact hWS26
      have hXS28 : wkExt S26 S28 := by rw [eS28]; exact wkExt.rf
      refine wk_dup C dL_limit_405 rfl ?_
      refine wk_iconst C (v := 3) dL_limit_406 (by decide) ?_
      refine wk_bipush C (v := 7) dL_limit_407 (by decide) ?_
      obtain ⟨i29, h⟩ := h
      obtain ⟨S30, eS30, h⟩ := wkLt_some h
      refine wk_iast C (hXS28 _ _ (hXS26 _ _ (hXS24 _ _ hIS22))).1 (hXS28 _ _ (hXS26 _ _ (hXS24 _ _ hIS22))).2 i29 eS30.symm dL_limit_409 ?_
      have hWS30 : wkWF S30 := by rw [eS30]; exact hWS28
      have hXS30 : wkExt S28 S30 := by rw [eS30]; exact wkExt.rf
      refine wk_callW C hR (As := [.int l1I, .ref q21]) (cnt := 2) (tL_pick (l := l) hWS30 (hXS30 _ _ (hXS28 _ _ (hXS26 _ _ (hXS24 _ _ hIS22)))) h) rfl (wkGoodW (List.mem_of_getElem? (i := 2) rfl) (List.mem_of_getElem? (i := 3) rfl) (List.mem_of_getElem? (i := 4) rfl) hbL_limit_L_pick gdL_pick) (Nat.le_trans (by decide : 0 + 1 ≤ 1) hd) (by decide) ⟨by decide, by decide, by decide +kernel⟩ rfl rfl (Nat.le_of_ble_eq_true rfl) h20b h20c dL_limit_410 (fun v' S32 hp => ?_)
      obtain ⟨v31, rfl, h, hWS32, hXS32⟩ := hp
      exact E _ _ _ _ _ _ h20b h20c dL_limit_413 ⟨v31, rfl, h, hWS32, (wkExt.tr (wkExt.tr (wkExt.tr (wkExt.tr (wkExt.tr (wkExt.tr hE hXS22) hXS24) hXS26) hXS28) hXS30) hXS32)⟩
    · rw [if_neg c19] at h
      by_cases c36 : l0I = 99
      · rw [if_pos c36] at h
        rw [c36]
        refine wk_tabIn C (tgt := 388) (off := 387) dL_limit_1 (by decide) (by decide) (by decide) (by decide) ?_
        refine wk_iload_n C dL_limit_388 rfl rfl ?_
        refine wk_iconst C (v := 4) dL_limit_389 (by decide) ?_
        obtain ⟨h37a, h37b, h37c, h37d, h⟩ := h
        refine wk_newI C hR (List.mem_of_getElem? (i := 1) rfl) h37a h37b h37c h37d dL_limit_390 (fun q38 h37e => ?_)
        obtain ⟨S39, eS39, h⟩ := wkLt_some (h q38 h37e)
        rw [← eS39]
        obtain ⟨hWS39, hXS39, hIS39⟩ := wkWF_newI eS39 hW h37e
        refine wk_dup C dL_limit_392 rfl ?_
        refine wk_iconst C (v := 0) dL_limit_393 (by decide) ?_
        refine wk_iconst C (v := 1) dL_limit_394 (by decide) ?_
        obtain ⟨i40, h⟩ := h
        obtain ⟨S41, eS41, h⟩ := wkLt_some h
        refine wk_iast C hIS39.1 hIS39.2 i40 eS41.symm dL_limit_395 ?_
        have hWS41 : wkWF S41 := by rw [eS41]; exact hWS39
        have hXS41 : wkExt S39 S41 := by rw [eS41]; exact wkExt.rf
        refine wk_dup C dL_limit_396 rfl ?_
        refine wk_iconst C (v := 1) dL_limit_397 (by decide) ?_
        refine wk_bipush C (v := 7) dL_limit_398 (by decide) ?_
        obtain ⟨i42, h⟩ := h
        obtain ⟨S43, eS43, h⟩ := wkLt_some h
        refine wk_iast C (hXS41 _ _ hIS39).1 (hXS41 _ _ hIS39).2 i42 eS43.symm dL_limit_400 ?_
        have hWS43 : wkWF S43 := by rw [eS43]; exact hWS41
        have hXS43 : wkExt S41 S43 := by rw [eS43]; exact wkExt.rf
        refine wk_dup C dL_limit_401 rfl ?_
        refine wk_iconst C (v := 2) dL_limit_402 (by decide) ?_
        refine wk_iconst C (v := 0) dL_limit_403 (by decide) ?_
        obtain ⟨i44, h⟩ := h
        obtain ⟨S45, eS45, h⟩ := wkLt_some h
        refine wk_iast C (hXS43 _ _ (hXS41 _ _ hIS39)).1 (hXS43 _ _ (hXS41 _ _ hIS39)).2 i44 eS45.symm dL_limit_404 ?_
        have hWS45 : wkWF S45 := by rw [eS45]; exact hWS43
        have hXS45 : wkExt S43 S45 := by rw [eS45]; exact wkExt.rf
        refine wk_dup C dL_limit_405 rfl ?_
        refine wk_iconst C (v := 3) dL_limit_406 (by decide) ?_
        refine wk_bipush C (v := 7) dL_limit_407 (by decide) ?_
        obtain ⟨i46, h⟩ := h
        obtain ⟨S47, eS47, h⟩ := wkLt_some h
        refine wk_iast C (hXS45 _ _ (hXS43 _ _ (hXS41 _ _ hIS39))).1 (hXS45 _ _ (hXS43 _ _ (hXS41 _ _ hIS39))).2 i46 eS47.symm dL_limit_409 ?_
        have hWS47 : wkWF S47 := by rw [eS47]; exact hWS45
        have hXS47 : wkExt S45 S47 := by rw [eS47]; exact wkExt.rf
        refine wk_callW C hR (As := [.int l1I, .ref q38]) (cnt := 2) (tL_pick (l := l) hWS47 (hXS47 _ _ (hXS45 _ _ (hXS43 _ _ (hXS41 _ _ hIS39)))) h) rfl (wkGoodW (List.mem_of_getElem? (i := 2) rfl) (List.mem_of_getElem? (i := 3) rfl) (List.mem_of_getElem? (i := 4) rfl) hbL_limit_L_pick gdL_pick) (Nat.le_trans (by decide : 0 + 1 ≤ 1) hd) (by decide) ⟨by decide, by decide, by decide +kernel⟩ rfl rfl (Nat.le_of_ble_eq_true rfl) h37b h37c dL_limit_410 (fun v' S49 hp => ?_)
        obtain ⟨v48, rfl, h, hWS49, hXS49⟩ := hp
        exact E _ _ _ _ _ _ h37b h37c dL_limit_413 ⟨v48, rfl, h, hWS49, (wkExt.tr (wkExt.tr (wkExt.tr (wkExt.tr (wkExt.tr (wkExt.tr hE hXS39) hXS41) hXS43) hXS45) hXS47) hXS49)⟩
      · rw [if_neg c36] at h
        by_cases c53 : l0I = 100
        · rw [if_pos c53] at h
          rw [c53]
          refine wk_tabIn C (tgt := 237) (off := 236) dL_limit_1 (by decide) (by decide) (by decide) (by decide) ?_
          refine wk_iload_n C dL_limit_237 rfl rfl ?_
          refine wk_iconst C (v := 4) dL_limit_238 (by decide) ?_
          obtain ⟨h54a, h54b, h54c, h54d, h⟩ := h
          refine wk_newI C hR (List.mem_of_getElem? (i := 1) rfl) h54a h54b h54c h54d dL_limit_239 (fun q55 h54e => ?_)
          obtain ⟨S56, eS56, h⟩ := wkLt_some (h q55 h54e)
          rw [← eS56]
          obtain ⟨hWS56, hXS56, hIS56⟩ := wkWF_newI eS56 hW h54e
          refine wk_dup C dL_limit_241 rfl ?_
          refine wk_iconst C (v := 0) dL_limit_242 (by decide) ?_
          refine wk_iconst C (v := 1) dL_limit_243 (by decide) ?_
          obtain ⟨i57, h⟩ := h
          obtain ⟨S58, eS58, h⟩ := wkLt_some h
          refine wk_iast C hIS56.1 hIS56.2 i57 eS58.symm dL_limit_244 ?_
          have hWS58 : wkWF S58 := by rw [eS58]; exact hWS56
          have hXS58 : wkExt S56 S58 := by rw [eS58]; exact wkExt.rf
          refine wk_dup C dL_limit_245 rfl ?_
          refine wk_iconst C (v := 1) dL_limit_246 (by decide) ?_
          refine wk_iconst C (v := 4) dL_limit_247 (by decide) ?_
          obtain ⟨i59, h⟩ := h
          obtain ⟨S60, eS60, h⟩ := wkLt_some h
          refine wk_iast C (hXS58 _ _ hIS56).1 (hXS58 _ _ hIS56).2 i59 eS60.symm dL_limit_248 ?_
          have hWS60 : wkWF S60 := by rw [eS60]; exact hWS58
          have hXS60 : wkExt S58 S60 := by rw [eS60]; exact wkExt.rf
          refine wk_dup C dL_limit_249 rfl ?_
          refine wk_iconst C (v := 2) dL_limit_250 (by decide) ?_
          refine wk_bipush C (v := (-40)) dL_limit_251 (by decide) ?_
          obtain ⟨i61, h⟩ := h
          obtain ⟨S62, eS62, h⟩ := wkLt_some h
          refine wk_iast C (hXS60 _ _ (hXS58 _ _ hIS56)).1 (hXS60 _ _ (hXS58 _ _ hIS56)).2 i61 eS62.symm dL_limit_253 ?_
          have hWS62 : wkWF S62 := by rw [eS62]; exact hWS60
          have hXS62 : wkExt S60 S62 := by rw [eS62]; exact wkExt.rf
          refine wk_dup C dL_limit_254 rfl ?_
          refine wk_iconst C (v := 3) dL_limit_255 (by decide) ?_
          refine wk_bipush C (v := 81) dL_limit_256 (by decide) ?_
          obtain ⟨i63, h⟩ := h
          obtain ⟨S64, eS64, h⟩ := wkLt_some h
          refine wk_iast C (hXS62 _ _ (hXS60 _ _ (hXS58 _ _ hIS56))).1 (hXS62 _ _ (hXS60 _ _ (hXS58 _ _ hIS56))).2 i63 eS64.symm dL_limit_258 ?_
          have hWS64 : wkWF S64 := by rw [eS64]; exact hWS62
          have hXS64 : wkExt S62 S64 := by rw [eS64]; exact wkExt.rf
          refine wk_callW C hR (As := [.int l1I, .ref q55]) (cnt := 2) (tL_pick (l := l) hWS64 (hXS64 _ _ (hXS62 _ _ (hXS60 _ _ (hXS58 _ _ hIS56)))) h) rfl (wkGoodW (List.mem_of_getElem? (i := 2) rfl) (List.mem_of_getElem? (i := 3) rfl) (List.mem_of_getElem? (i := 4) rfl) hbL_limit_L_pick gdL_pick) (Nat.le_trans (by decide : 0 + 1 ≤ 1) hd) (by decide) ⟨by decide, by decide, by decide +kernel⟩ rfl rfl (Nat.le_of_ble_eq_true rfl) h54b h54c dL_limit_259 (fun v' S66 hp => ?_)
          obtain ⟨v65, rfl, h, hWS66, hXS66⟩ := hp
          exact E _ _ _ _ _ _ h54b h54c dL_limit_262 ⟨v65, rfl, h, hWS66, (wkExt.tr (wkExt.tr (wkExt.tr (wkExt.tr (wkExt.tr (wkExt.tr hE hXS56) hXS58) hXS60) hXS62) hXS64) hXS66)⟩
        · rw [if_neg c53] at h
          by_cases c70 : l0I = 101
          · rw [if_pos c70] at h
            rw [c70]
            refine wk_tabIn C (tgt := 388) (off := 387) dL_limit_1 (by decide) (by decide) (by decide) (by decide) ?_
            refine wk_iload_n C dL_limit_388 rfl rfl ?_
            refine wk_iconst C (v := 4) dL_limit_389 (by decide) ?_
            obtain ⟨h71a, h71b, h71c, h71d, h⟩ := h
            refine wk_newI C hR (List.mem_of_getElem? (i := 1) rfl) h71a h71b h71c h71d dL_limit_390 (fun q72 h71e => ?_)
            obtain ⟨S73, eS73, h⟩ := wkLt_some (h q72 h71e)
            rw [← eS73]
            obtain ⟨hWS73, hXS73, hIS73⟩ := wkWF_newI eS73 hW h71e
            refine wk_dup C dL_limit_392 rfl ?_
            refine wk_iconst C (v := 0) dL_limit_393 (by decide) ?_
            refine wk_iconst C (v := 1) dL_limit_394 (by decide) ?_
            obtain ⟨i74, h⟩ := h
            obtain ⟨S75, eS75, h⟩ := wkLt_some h
            refine wk_iast C hIS73.1 hIS73.2 i74 eS75.symm dL_limit_395 ?_
            have hWS75 : wkWF S75 := by rw [eS75]; exact hWS73
            have hXS75 : wkExt S73 S75 := by rw [eS75]; exact wkExt.rf
            refine wk_dup C dL_limit_396 rfl ?_
            refine wk_iconst C (v := 1) dL_limit_397 (by decide) ?_
            refine wk_bipush C (v := 7) dL_limit_398 (by decide) ?_
            obtain ⟨i76, h⟩ := h
            obtain ⟨S77, eS77, h⟩ := wkLt_some h
            refine wk_iast C (hXS75 _ _ hIS73).1 (hXS75 _ _ hIS73).2 i76 eS77.symm dL_limit_400 ?_
            have hWS77 : wkWF S77 := by rw [eS77]; exact hWS75
            have hXS77 : wkExt S75 S77 := by rw [eS77]; exact wkExt.rf
            refine wk_dup C dL_limit_401 rfl ?_
            refine wk_iconst C (v := 2) dL_limit_402 (by decide) ?_
            refine wk_iconst C (v := 0) dL_limit_403 (by decide) ?_
            obtain ⟨i78, h⟩ := h
            obtain ⟨S79, eS79, h⟩ := wkLt_some h
            refine wk_iast C (hXS77 _ _ (hXS75 _ _ hIS73)).1 (hXS77 _ _ (hXS75 _ _ hIS73)).2 i78 eS79.symm dL_limit_404 ?_
            have hWS79 : wkWF S79 := by rw [eS79]; exact hWS77
            have hXS79 : wkExt S77 S79 := by rw [eS79]; exact wkExt.rf
            refine wk_dup C dL_limit_405 rfl ?_
            refine wk_iconst C (v := 3) dL_limit_406 (by decide) ?_
            refine wk_bipush C (v := 7) dL_limit_407 (by decide) ?_
            obtain ⟨i80, h⟩ := h
            obtain ⟨S81, eS81, h⟩ := wkLt_some h
            refine wk_iast C (hXS79 _ _ (hXS77 _ _ (hXS75 _ _ hIS73))).1 (hXS79 _ _ (hXS77 _ _ (hXS75 _ _ hIS73))).2 i80 eS81.symm dL_limit_409 ?_
            have hWS81 : wkWF S81 := by rw [eS81]; exact hWS79
            have hXS81 : wkExt S79 S81 := by rw [eS81]; exact wkExt.rf
            refine wk_callW C hR (As := [.int l1I, .ref q72]) (cnt := 2) (tL_pick (l := l) hWS81 (hXS81 _ _ (hXS79 _ _ (hXS77 _ _ (hXS75 _ _ hIS73)))) h) rfl (wkGoodW (List.mem_of_getElem? (i := 2) rfl) (List.mem_of_getElem? (i := 3) rfl) (List.mem_of_getElem? (i := 4) rfl) hbL_limit_L_pick gdL_pick) (Nat.le_trans (by decide : 0 + 1 ≤ 1) hd) (by decide) ⟨by decide, by decide, by decide +kernel⟩ rfl rfl (Nat.le_of_ble_eq_true rfl) h71b h71c dL_limit_410 (fun v' S83 hp => ?_)
            obtain ⟨v82, rfl, h, hWS83, hXS83⟩ := hp
            exact E _ _ _ _ _ _ h71b h71c dL_limit_413 ⟨v82, rfl, h, hWS83, (wkExt.tr (wkExt.tr (wkExt.tr (wkExt.tr (wkExt.tr (wkExt.tr hE hXS73) hXS75) hXS77) hXS79) hXS81) hXS83)⟩
          · rw [if_neg c70] at h
            by_cases c87 : l0I = 102
            · rw [if_pos c87] at h
              rw [c87]
              refine wk_tabIn C (tgt := 134) (off := 133) dL_limit_1 (by decide) (by decide) (by decide) (by decide) ?_
              refine wk_iload_n C dL_limit_134 rfl rfl ?_
              refine wk_iconst C (v := 4) dL_limit_135 (by decide) ?_
              obtain ⟨h88a, h88b, h88c, h88d, h⟩ := h
              refine wk_newI C hR (List.mem_of_getElem? (i := 1) rfl) h88a h88b h88c h88d dL_limit_136 (fun q89 h88e => ?_)
              obtain ⟨S90, eS90, h⟩ := wkLt_some (h q89 h88e)
              rw [← eS90]
              obtain ⟨hWS90, hXS90, hIS90⟩ := wkWF_newI eS90 hW h88e
              refine wk_dup C dL_limit_138 rfl ?_
              refine wk_iconst C (v := 0) dL_limit_139 (by decide) ?_
              refine wk_iconst C (v := 2) dL_limit_140 (by decide) ?_
              obtain ⟨i91, h⟩ := h
              obtain ⟨S92, eS92, h⟩ := wkLt_some h
              refine wk_iast C hIS90.1 hIS90.2 i91 eS92.symm dL_limit_141 ?_
              have hWS92 : wkWF S92 := by rw [eS92]; exact hWS90
              have hXS92 : wkExt S90 S92 := by rw [eS92]; exact wkExt.rf
              refine wk_dup C dL_limit_142 rfl ?_
              refine wk_iconst C (v := 1) dL_limit_143 (by decide) ?_
              refine wk_bipush C (v := 6) dL_limit_144 (by decide) ?_
              obtain ⟨i93, h⟩ := h
              obtain ⟨S94, eS94, h⟩ := wkLt_some h
              refine wk_iast C (hXS92 _ _ hIS90).1 (hXS92 _ _ hIS90).2 i93 eS94.symm dL_limit_146 ?_
              have hWS94 : wkWF S94 := by rw [eS94]; exact hWS92
              have hXS94 : wkExt S92 S94 := by rw [eS94]; exact wkExt.rf
              refine wk_dup C dL_limit_147 rfl ?_
              refine wk_iconst C (v := 2) dL_limit_148 (by decide) ?_
              refine wk_iconst C (v := 0) dL_limit_149 (by decide) ?_
              obtain ⟨i95, h⟩ := h
              obtain ⟨S96, eS96, h⟩ := wkLt_some h
              refine wk_iast C (hXS94 _ _ (hXS92 _ _ hIS90)).1 (hXS94 _ _ (hXS92 _ _ hIS90)).2 i95 eS96.symm dL_limit_150 ?_
              have hWS96 : wkWF S96 := by rw [eS96]; exact hWS94
              have hXS96 : wkExt S94 S96 := by rw [eS96]; exact wkExt.rf
              refine wk_dup C dL_limit_151 rfl ?_
              refine wk_iconst C (v := 3) dL_limit_152 (by decide) ?_
              refine wk_bipush C (v := 14) dL_limit_153 (by decide) ?_
              obtain ⟨i97, h⟩ := h
              obtain ⟨S98, eS98, h⟩ := wkLt_some h
              refine wk_iast C (hXS96 _ _ (hXS94 _ _ (hXS92 _ _ hIS90))).1 (hXS96 _ _ (hXS94 _ _ (hXS92 _ _ hIS90))).2 i97 eS98.symm dL_limit_155 ?_
              have hWS98 : wkWF S98 := by rw [eS98]; exact hWS96
              have hXS98 : wkExt S96 S98 := by rw [eS98]; exact wkExt.rf
              refine wk_callW C hR (As := [.int l1I, .ref q89]) (cnt := 2) (tL_pick (l := l) hWS98 (hXS98 _ _ (hXS96 _ _ (hXS94 _ _ (hXS92 _ _ hIS90)))) h) rfl (wkGoodW (List.mem_of_getElem? (i := 2) rfl) (List.mem_of_getElem? (i := 3) rfl) (List.mem_of_getElem? (i := 4) rfl) hbL_limit_L_pick gdL_pick) (Nat.le_trans (by decide : 0 + 1 ≤ 1) hd) (by decide) ⟨by decide, by decide, by decide +kernel⟩ rfl rfl (Nat.le_of_ble_eq_true rfl) h88b h88c dL_limit_156 (fun v' S100 hp => ?_)
              obtain ⟨v99, rfl, h, hWS100, hXS100⟩ := hp
              exact E _ _ _ _ _ _ h88b h88c dL_limit_159 ⟨v99, rfl, h, hWS100, (wkExt.tr (wkExt.tr (wkExt.tr (wkExt.tr (wkExt.tr (wkExt.tr hE hXS90) hXS92) hXS94) hXS96) hXS98) hXS100)⟩
            · rw [if_neg c87] at h
              by_cases c104 : l0I = 103
              · rw [if_pos c104] at h
                rw [c104]
                refine wk_tabIn C (tgt := 313) (off := 312) dL_limit_1 (by decide) (by decide) (by decide) (by decide) ?_
                refine wk_iload_n C dL_limit_313 rfl rfl ?_
                refine wk_iconst C (v := 4) dL_limit_314 (by decide) ?_
                obtain ⟨h105a, h105b, h105c, h105d, h⟩ := h
                refine wk_newI C hR (List.mem_of_getElem? (i := 1) rfl) h105a h105b h105c h105d dL_limit_315 (fun q106 h105e => ?_)
                obtain ⟨S107, eS107, h⟩ := wkLt_some (h q106 h105e)
                rw [← eS107]
                obtain ⟨hWS107, hXS107, hIS107⟩ := wkWF_newI eS107 hW h105e
                refine wk_dup C dL_limit_317 rfl ?_
                refine wk_iconst C (v := 0) dL_limit_318 (by decide) ?_
                refine wk_iconst C (v := 2) dL_limit_319 (by decide) ?_
                obtain ⟨i108, h⟩ := h
                obtain ⟨S109, eS109, h⟩ := wkLt_some h
                refine wk_iast C hIS107.1 hIS107.2 i108 eS109.symm dL_limit_320 ?_
                have hWS109 : wkWF S109 := by rw [eS109]; exact hWS107
                have hXS109 : wkExt S107 S109 := by rw [eS109]; exact wkExt.rf
                refine wk_dup C dL_limit_321 rfl ?_
                refine wk_iconst C (v := 1) dL_limit_322 (by decide) ?_
                refine wk_iconst C (v := 5) dL_limit_323 (by decide) ?_
                obtain ⟨i110, h⟩ := h
                obtain ⟨S111, eS111, h⟩ := wkLt_some h
                refine wk_iast C (hXS109 _ _ hIS107).1 (hXS109 _ _ hIS107).2 i110 eS111.symm dL_limit_324 ?_
                have hWS111 : wkWF S111 := by rw [eS111]; exact hWS109
                have hXS111 : wkExt S109 S111 := by rw [eS111]; exact wkExt.rf
                refine wk_dup C dL_limit_325 rfl ?_
                refine wk_iconst C (v := 2) dL_limit_326 (by decide) ?_
                refine wk_iconst C (v := 0) dL_limit_327 (by decide) ?_
                obtain ⟨i112, h⟩ := h
                obtain ⟨S113, eS113, h⟩ := wkLt_some h
                refine wk_iast C (hXS111 _ _ (hXS109 _ _ hIS107)).1 (hXS111 _ _ (hXS109 _ _ hIS107)).2 i112 eS113.symm dL_limit_328 ?_
                have hWS113 : wkWF S113 := by rw [eS113]; exact hWS111
                have hXS113 : wkExt S111 S113 := by rw [eS113]; exact wkExt.rf
                refine wk_dup C dL_limit_329 rfl ?_
                refine wk_iconst C (v := 3) dL_limit_330 (by decide) ?_
                refine wk_iconst C (v := 5) dL_limit_331 (by decide) ?_
                obtain ⟨i114, h⟩ := h
                obtain ⟨S115, eS115, h⟩ := wkLt_some h
                refine wk_iast C (hXS113 _ _ (hXS111 _ _ (hXS109 _ _ hIS107))).1 (hXS113 _ _ (hXS111 _ _ (hXS109 _ _ hIS107))).2 i114 eS115.symm dL_limit_332 ?_
                have hWS115 : wkWF S115 := by rw [eS115]; exact hWS113
                have hXS115 : wkExt S113 S115 := by rw [eS115]; exact wkExt.rf
                refine wk_callW C hR (As := [.int l1I, .ref q106]) (cnt := 2) (tL_pick (l := l) hWS115 (hXS115 _ _ (hXS113 _ _ (hXS111 _ _ (hXS109 _ _ hIS107)))) h) rfl (wkGoodW (List.mem_of_getElem? (i := 2) rfl) (List.mem_of_getElem? (i := 3) rfl) (List.mem_of_getElem? (i := 4) rfl) hbL_limit_L_pick gdL_pick) (Nat.le_trans (by decide : 0 + 1 ≤ 1) hd) (by decide) ⟨by decide, by decide, by decide +kernel⟩ rfl rfl (Nat.le_of_ble_eq_true rfl) h105b h105c dL_limit_333 (fun v' S117 hp => ?_)
                obtain ⟨v116, rfl, h, hWS117, hXS117⟩ := hp
                exact E _ _ _ _ _ _ h105b h105c dL_limit_336 ⟨v116, rfl, h, hWS117, (wkExt.tr (wkExt.tr (wkExt.tr (wkExt.tr (wkExt.tr (wkExt.tr hE hXS107) hXS109) hXS111) hXS113) hXS115) hXS117)⟩
              · rw [if_neg c104] at h
                by_cases c121 : l0I = 104
                · rw [if_pos c121] at h
                  rw [c121]
                  refine wk_tabIn C (tgt := 388) (off := 387) dL_limit_1 (by decide) (by decide) (by decide) (by decide) ?_
                  refine wk_iload_n C dL_limit_388 rfl rfl ?_
                  refine wk_iconst C (v := 4) dL_limit_389 (by decide) ?_
                  obtain ⟨h122a, h122b, h122c, h122d, h⟩ := h
                  refine wk_newI C hR (List.mem_of_getElem? (i := 1) rfl) h122a h122b h122c h122d dL_limit_390 (fun q123 h122e => ?_)
                  obtain ⟨S124, eS124, h⟩ := wkLt_some (h q123 h122e)
                  rw [← eS124]
                  obtain ⟨hWS124, hXS124, hIS124⟩ := wkWF_newI eS124 hW h122e
                  refine wk_dup C dL_limit_392 rfl ?_
                  refine wk_iconst C (v := 0) dL_limit_393 (by decide) ?_
                  refine wk_iconst C (v := 1) dL_limit_394 (by decide) ?_
                  obtain ⟨i125, h⟩ := h
                  obtain ⟨S126, eS126, h⟩ := wkLt_some h
                  refine wk_iast C hIS124.1 hIS124.2 i125 eS126.symm dL_limit_395 ?_
                  have hWS126 : wkWF S126 := by rw [eS126]; exact hWS124
                  have hXS126 : wkExt S124 S126 := by rw [eS126]; exact wkExt.rf
                  refine wk_dup C dL_limit_396 rfl ?_
                  refine wk_iconst C (v := 1) dL_limit_397 (by decide) ?_
                  refine wk_bipush C (v := 7) dL_limit_398 (by decide) ?_
                  obtain ⟨i127, h⟩ := h
                  obtain ⟨S128, eS128, h⟩ := wkLt_some h
                  refine wk_iast C (hXS126 _ _ hIS124).1 (hXS126 _ _ hIS124).2 i127 eS128.symm dL_limit_400 ?_
                  have hWS128 : wkWF S128 := by rw [eS128]; exact hWS126
                  have hXS128 : wkExt S126 S128 := by rw [eS128]; exact wkExt.rf
                  refine wk_dup C dL_limit_401 rfl ?_
                  refine wk_iconst C (v := 2) dL_limit_402 (by decide) ?_
                  refine wk_iconst C (v := 0) dL_limit_403 (by decide) ?_
                  obtain ⟨i129, h⟩ := h
                  obtain ⟨S130, eS130, h⟩ := wkLt_some h
                  refine wk_iast C (hXS128 _ _ (hXS126 _ _ hIS124)).1 (hXS128 _ _ (hXS126 _ _ hIS124)).2 i129 eS130.symm dL_limit_404 ?_
                  have hWS130 : wkWF S130 := by rw [eS130]; exact hWS128
                  have hXS130 : wkExt S128 S130 := by rw [eS130]; exact wkExt.rf
                  refine wk_dup C dL_limit_405 rfl ?_
                  refine wk_iconst C (v := 3) dL_limit_406 (by decide) ?_
                  refine wk_bipush C (v := 7) dL_limit_407 (by decide) ?_
                  obtain ⟨i131, h⟩ := h
                  obtain ⟨S132, eS132, h⟩ := wkLt_some h
                  refine wk_iast C (hXS130 _ _ (hXS128 _ _ (hXS126 _ _ hIS124))).1 (hXS130 _ _ (hXS128 _ _ (hXS126 _ _ hIS124))).2 i131 eS132.symm dL_limit_409 ?_
                  have hWS132 : wkWF S132 := by rw [eS132]; exact hWS130
                  have hXS132 : wkExt S130 S132 := by rw [eS132]; exact wkExt.rf
                  refine wk_callW C hR (As := [.int l1I, .ref q123]) (cnt := 2) (tL_pick (l := l) hWS132 (hXS132 _ _ (hXS130 _ _ (hXS128 _ _ (hXS126 _ _ hIS124)))) h) rfl (wkGoodW (List.mem_of_getElem? (i := 2) rfl) (List.mem_of_getElem? (i := 3) rfl) (List.mem_of_getElem? (i := 4) rfl) hbL_limit_L_pick gdL_pick) (Nat.le_trans (by decide : 0 + 1 ≤ 1) hd) (by decide) ⟨by decide, by decide, by decide +kernel⟩ rfl rfl (Nat.le_of_ble_eq_true rfl) h122b h122c dL_limit_410 (fun v' S134 hp => ?_)
                  obtain ⟨v133, rfl, h, hWS134, hXS134⟩ := hp
                  exact E _ _ _ _ _ _ h122b h122c dL_limit_413 ⟨v133, rfl, h, hWS134, (wkExt.tr (wkExt.tr (wkExt.tr (wkExt.tr (wkExt.tr (wkExt.tr hE hXS124) hXS126) hXS128) hXS130) hXS132) hXS134)⟩
                · rw [if_neg c121] at h
                  by_cases c138 : l0I = 105
                  · rw [if_pos c138] at h
                    rw [c138]
                    refine wk_tabIn C (tgt := 388) (off := 387) dL_limit_1 (by decide) (by decide) (by decide) (by decide) ?_
                    refine wk_iload_n C dL_limit_388 rfl rfl ?_
                    refine wk_iconst C (v := 4) dL_limit_389 (by decide) ?_
                    obtain ⟨h139a, h139b, h139c, h139d, h⟩ := h
                    refine wk_newI C hR (List.mem_of_getElem? (i := 1) rfl) h139a h139b h139c h139d dL_limit_390 (fun q140 h139e => ?_)
                    obtain ⟨S141, eS141, h⟩ := wkLt_some (h q140 h139e)
                    rw [← eS141]
                    obtain ⟨hWS141, hXS141, hIS141⟩ := wkWF_newI eS141 hW h139e
                    refine wk_dup C dL_limit_392 rfl ?_
                    refine wk_iconst C (v := 0) dL_limit_393 (by decide) ?_
                    refine wk_iconst C (v := 1) dL_limit_394 (by decide) ?_
                    obtain ⟨i142, h⟩ := h
                    obtain ⟨S143, eS143, h⟩ := wkLt_some h
                    refine wk_iast C hIS141.1 hIS141.2 i142 eS143.symm dL_limit_395 ?_
                    have hWS143 : wkWF S143 := by rw [eS143]; exact hWS141
                    have hXS143 : wkExt S141 S143 := by rw [eS143]; exact wkExt.rf
                    refine wk_dup C dL_limit_396 rfl ?_
                    refine wk_iconst C (v := 1) dL_limit_397 (by decide) ?_
                    refine wk_bipush C (v := 7) dL_limit_398 (by decide) ?_
                    obtain ⟨i144, h⟩ := h
                    obtain ⟨S145, eS145, h⟩ := wkLt_some h
                    refine wk_iast C (hXS143 _ _ hIS141).1 (hXS143 _ _ hIS141).2 i144 eS145.symm dL_limit_400 ?_
                    have hWS145 : wkWF S145 := by rw [eS145]; exact hWS143
                    have hXS145 : wkExt S143 S145 := by rw [eS145]; exact wkExt.rf
                    refine wk_dup C dL_limit_401 rfl ?_
                    refine wk_iconst C (v := 2) dL_limit_402 (by decide) ?_
                    refine wk_iconst C (v := 0) dL_limit_403 (by decide) ?_
                    obtain ⟨i146, h⟩ := h
                    obtain ⟨S147, eS147, h⟩ := wkLt_some h
                    refine wk_iast C (hXS145 _ _ (hXS143 _ _ hIS141)).1 (hXS145 _ _ (hXS143 _ _ hIS141)).2 i146 eS147.symm dL_limit_404 ?_
                    have hWS147 : wkWF S147 := by rw [eS147]; exact hWS145
                    have hXS147 : wkExt S145 S147 := by rw [eS147]; exact wkExt.rf
                    refine wk_dup C dL_limit_405 rfl ?_
                    refine wk_iconst C (v := 3) dL_limit_406 (by decide) ?_
                    refine wk_bipush C (v := 7) dL_limit_407 (by decide) ?_
                    obtain ⟨i148, h⟩ := h
                    obtain ⟨S149, eS149, h⟩ := wkLt_some h
                    refine wk_iast C (hXS147 _ _ (hXS145 _ _ (hXS143 _ _ hIS141))).1 (hXS147 _ _ (hXS145 _ _ (hXS143 _ _ hIS141))).2 i148 eS149.symm dL_limit_409 ?_
                    have hWS149 : wkWF S149 := by rw [eS149]; exact hWS147
                    have hXS149 : wkExt S147 S149 := by rw [eS149]; exact wkExt.rf
                    refine wk_callW C hR (As := [.int l1I, .ref q140]) (cnt := 2) (tL_pick (l := l) hWS149 (hXS149 _ _ (hXS147 _ _ (hXS145 _ _ (hXS143 _ _ hIS141)))) h) rfl (wkGoodW (List.mem_of_getElem? (i := 2) rfl) (List.mem_of_getElem? (i := 3) rfl) (List.mem_of_getElem? (i := 4) rfl) hbL_limit_L_pick gdL_pick) (Nat.le_trans (by decide : 0 + 1 ≤ 1) hd) (by decide) ⟨by decide, by decide, by decide +kernel⟩ rfl rfl (Nat.le_of_ble_eq_true rfl) h139b h139c dL_limit_410 (fun v' S151 hp => ?_)
                    obtain ⟨v150, rfl, h, hWS151, hXS151⟩ := hp
                    exact E _ _ _ _ _ _ h139b h139c dL_limit_413 ⟨v150, rfl, h, hWS151, (wkExt.tr (wkExt.tr (wkExt.tr (wkExt.tr (wkExt.tr (wkExt.tr hE hXS141) hXS143) hXS145) hXS147) hXS149) hXS151)⟩
                  · rw [if_neg c138] at h
                    by_cases c155 : l0I = 106
                    · rw [if_pos c155] at h
                      rw [c155]
                      refine wk_tabIn C (tgt := 388) (off := 387) dL_limit_1 (by decide) (by decide) (by decide) (by decide) ?_
                      refine wk_iload_n C dL_limit_388 rfl rfl ?_
                      refine wk_iconst C (v := 4) dL_limit_389 (by decide) ?_
                      obtain ⟨h156a, h156b, h156c, h156d, h⟩ := h
                      refine wk_newI C hR (List.mem_of_getElem? (i := 1) rfl) h156a h156b h156c h156d dL_limit_390 (fun q157 h156e => ?_)
                      obtain ⟨S158, eS158, h⟩ := wkLt_some (h q157 h156e)
                      rw [← eS158]
                      obtain ⟨hWS158, hXS158, hIS158⟩ := wkWF_newI eS158 hW h156e
                      refine wk_dup C dL_limit_392 rfl ?_
                      refine wk_iconst C (v := 0) dL_limit_393 (by decide) ?_
                      refine wk_iconst C (v := 1) dL_limit_394 (by decide) ?_
                      obtain ⟨i159, h⟩ := h
                      obtain ⟨S160, eS160, h⟩ := wkLt_some h
                      refine wk_iast C hIS158.1 hIS158.2 i159 eS160.symm dL_limit_395 ?_
                      have hWS160 : wkWF S160 := by rw [eS160]; exact hWS158
                      have hXS160 : wkExt S158 S160 := by rw [eS160]; exact wkExt.rf
                      refine wk_dup C dL_limit_396 rfl ?_
                      refine wk_iconst C (v := 1) dL_limit_397 (by decide) ?_
                      refine wk_bipush C (v := 7) dL_limit_398 (by decide) ?_
                      obtain ⟨i161, h⟩ := h
                      obtain ⟨S162, eS162, h⟩ := wkLt_some h
                      refine wk_iast C (hXS160 _ _ hIS158).1 (hXS160 _ _ hIS158).2 i161 eS162.symm dL_limit_400 ?_
                      have hWS162 : wkWF S162 := by rw [eS162]; exact hWS160
                      have hXS162 : wkExt S160 S162 := by rw [eS162]; exact wkExt.rf
                      refine wk_dup C dL_limit_401 rfl ?_
                      refine wk_iconst C (v := 2) dL_limit_402 (by decide) ?_
                      refine wk_iconst C (v := 0) dL_limit_403 (by decide) ?_
                      obtain ⟨i163, h⟩ := h
                      obtain ⟨S164, eS164, h⟩ := wkLt_some h
                      refine wk_iast C (hXS162 _ _ (hXS160 _ _ hIS158)).1 (hXS162 _ _ (hXS160 _ _ hIS158)).2 i163 eS164.symm dL_limit_404 ?_
                      have hWS164 : wkWF S164 := by rw [eS164]; exact hWS162
                      have hXS164 : wkExt S162 S164 := by rw [eS164]; exact wkExt.rf
                      refine wk_dup C dL_limit_405 rfl ?_
                      refine wk_iconst C (v := 3) dL_limit_406 (by decide) ?_
                      refine wk_bipush C (v := 7) dL_limit_407 (by decide) ?_
                      obtain ⟨i165, h⟩ := h
                      obtain ⟨S166, eS166, h⟩ := wkLt_some h
                      refine wk_iast C (hXS164 _ _ (hXS162 _ _ (hXS160 _ _ hIS158))).1 (hXS164 _ _ (hXS162 _ _ (hXS160 _ _ hIS158))).2 i165 eS166.symm dL_limit_409 ?_
                      have hWS166 : wkWF S166 := by rw [eS166]; exact hWS164
                      have hXS166 : wkExt S164 S166 := by rw [eS166]; exact wkExt.rf
                      refine wk_callW C hR (As := [.int l1I, .ref q157]) (cnt := 2) (tL_pick (l := l) hWS166 (hXS166 _ _ (hXS164 _ _ (hXS162 _ _ (hXS160 _ _ hIS158)))) h) rfl (wkGoodW (List.mem_of_getElem? (i := 2) rfl) (List.mem_of_getElem? (i := 3) rfl) (List.mem_of_getElem? (i := 4) rfl) hbL_limit_L_pick gdL_pick) (Nat.le_trans (by decide : 0 + 1 ≤ 1) hd) (by decide) ⟨by decide, by decide, by decide +kernel⟩ rfl rfl (Nat.le_of_ble_eq_true rfl) h156b h156c dL_limit_410 (fun v' S168 hp => ?_)
                      obtain ⟨v167, rfl, h, hWS168, hXS168⟩ := hp
                      exact E _ _ _ _ _ _ h156b h156c dL_limit_413 ⟨v167, rfl, h, hWS168, (wkExt.tr (wkExt.tr (wkExt.tr (wkExt.tr (wkExt.tr (wkExt.tr hE hXS158) hXS160) hXS162) hXS164) hXS166) hXS168)⟩
                    · rw [if_neg c155] at h
                      by_cases c172 : l0I = 107
                      · rw [if_pos c172] at h
                        rw [c172]
                        refine wk_tabIn C (tgt := 388) (off := 387) dL_limit_1 (by decide) (by decide) (by decide) (by decide) ?_
                        refine wk_iload_n C dL_limit_388 rfl rfl ?_
                        refine wk_iconst C (v := 4) dL_limit_389 (by decide) ?_
                        obtain ⟨h173a, h173b, h173c, h173d, h⟩ := h
                        refine wk_newI C hR (List.mem_of_getElem? (i := 1) rfl) h173a h173b h173c h173d dL_limit_390 (fun q174 h173e => ?_)
                        obtain ⟨S175, eS175, h⟩ := wkLt_some (h q174 h173e)
                        rw [← eS175]
                        obtain ⟨hWS175, hXS175, hIS175⟩ := wkWF_newI eS175 hW h173e
                        refine wk_dup C dL_limit_392 rfl ?_
                        refine wk_iconst C (v := 0) dL_limit_393 (by decide) ?_
                        refine wk_iconst C (v := 1) dL_limit_394 (by decide) ?_
                        obtain ⟨i176, h⟩ := h
                        obtain ⟨S177, eS177, h⟩ := wkLt_some h
                        refine wk_iast C hIS175.1 hIS175.2 i176 eS177.symm dL_limit_395 ?_
                        have hWS177 : wkWF S177 := by rw [eS177]; exact hWS175
                        have hXS177 : wkExt S175 S177 := by rw [eS177]; exact wkExt.rf
                        refine wk_dup C dL_limit_396 rfl ?_
                        refine wk_iconst C (v := 1) dL_limit_397 (by decide) ?_
                        refine wk_bipush C (v := 7) dL_limit_398 (by decide) ?_
                        obtain ⟨i178, h⟩ := h
                        obtain ⟨S179, eS179, h⟩ := wkLt_some h
                        refine wk_iast C (hXS177 _ _ hIS175).1 (hXS177 _ _ hIS175).2 i178 eS179.symm dL_limit_400 ?_
                        have hWS179 : wkWF S179 := by rw [eS179]; exact hWS177
                        have hXS179 : wkExt S177 S179 := by rw [eS179]; exact wkExt.rf
                        refine wk_dup C dL_limit_401 rfl ?_
                        refine wk_iconst C (v := 2) dL_limit_402 (by decide) ?_
                        refine wk_iconst C (v := 0) dL_limit_403 (by decide) ?_
                        obtain ⟨i180, h⟩ := h
                        obtain ⟨S181, eS181, h⟩ := wkLt_some h
                        refine wk_iast C (hXS179 _ _ (hXS177 _ _ hIS175)).1 (hXS179 _ _ (hXS177 _ _ hIS175)).2 i180 eS181.symm dL_limit_404 ?_
                        have hWS181 : wkWF S181 := by rw [eS181]; exact hWS179
                        have hXS181 : wkExt S179 S181 := by rw [eS181]; exact wkExt.rf
                        refine wk_dup C dL_limit_405 rfl ?_
                        refine wk_iconst C (v := 3) dL_limit_406 (by decide) ?_
                        refine wk_bipush C (v := 7) dL_limit_407 (by decide) ?_
                        obtain ⟨i182, h⟩ := h
                        obtain ⟨S183, eS183, h⟩ := wkLt_some h
                        refine wk_iast C (hXS181 _ _ (hXS179 _ _ (hXS177 _ _ hIS175))).1 (hXS181 _ _ (hXS179 _ _ (hXS177 _ _ hIS175))).2 i182 eS183.symm dL_limit_409 ?_
                        have hWS183 : wkWF S183 := by rw [eS183]; exact hWS181
                        have hXS183 : wkExt S181 S183 := by rw [eS183]; exact wkExt.rf
                        refine wk_callW C hR (As := [.int l1I, .ref q174]) (cnt := 2) (tL_pick (l := l) hWS183 (hXS183 _ _ (hXS181 _ _ (hXS179 _ _ (hXS177 _ _ hIS175)))) h) rfl (wkGoodW (List.mem_of_getElem? (i := 2) rfl) (List.mem_of_getElem? (i := 3) rfl) (List.mem_of_getElem? (i := 4) rfl) hbL_limit_L_pick gdL_pick) (Nat.le_trans (by decide : 0 + 1 ≤ 1) hd) (by decide) ⟨by decide, by decide, by decide +kernel⟩ rfl rfl (Nat.le_of_ble_eq_true rfl) h173b h173c dL_limit_410 (fun v' S185 hp => ?_)
                        obtain ⟨v184, rfl, h, hWS185, hXS185⟩ := hp
                        exact E _ _ _ _ _ _ h173b h173c dL_limit_413 ⟨v184, rfl, h, hWS185, (wkExt.tr (wkExt.tr (wkExt.tr (wkExt.tr (wkExt.tr (wkExt.tr hE hXS175) hXS177) hXS179) hXS181) hXS183) hXS185)⟩
                      · rw [if_neg c172] at h
                        by_cases c189 : l0I = 108
                        · rw [if_pos c189] at h
                          rw [c189]
                          refine wk_tabIn C (tgt := 186) (off := 185) dL_limit_1 (by decide) (by decide) (by decide) (by decide) ?_
                          refine wk_iload_n C dL_limit_186 rfl rfl ?_
                          refine wk_iconst C (v := 4) dL_limit_187 (by decide) ?_
                          obtain ⟨h190a, h190b, h190c, h190d, h⟩ := h
                          refine wk_newI C hR (List.mem_of_getElem? (i := 1) rfl) h190a h190b h190c h190d dL_limit_188 (fun q191 h190e => ?_)
                          obtain ⟨S192, eS192, h⟩ := wkLt_some (h q191 h190e)
                          rw [← eS192]
                          obtain ⟨hWS192, hXS192, hIS192⟩ := wkWF_newI eS192 hW h190e
                          refine wk_dup C dL_limit_190 rfl ?_
                          refine wk_iconst C (v := 0) dL_limit_191 (by decide) ?_
                          refine wk_iconst C (v := 1) dL_limit_192 (by decide) ?_
                          obtain ⟨i193, h⟩ := h
                          obtain ⟨S194, eS194, h⟩ := wkLt_some h
                          refine wk_iast C hIS192.1 hIS192.2 i193 eS194.symm dL_limit_193 ?_
                          have hWS194 : wkWF S194 := by rw [eS194]; exact hWS192
                          have hXS194 : wkExt S192 S194 := by rw [eS194]; exact wkExt.rf
                          refine wk_dup C dL_limit_194 rfl ?_
                          refine wk_iconst C (v := 1) dL_limit_195 (by decide) ?_
                          refine wk_iconst C (v := 4) dL_limit_196 (by decide) ?_
                          obtain ⟨i195, h⟩ := h
                          obtain ⟨S196, eS196, h⟩ := wkLt_some h
                          refine wk_iast C (hXS194 _ _ hIS192).1 (hXS194 _ _ hIS192).2 i195 eS196.symm dL_limit_197 ?_
                          have hWS196 : wkWF S196 := by rw [eS196]; exact hWS194
                          have hXS196 : wkExt S194 S196 := by rw [eS196]; exact wkExt.rf
                          refine wk_dup C dL_limit_198 rfl ?_
                          refine wk_iconst C (v := 2) dL_limit_199 (by decide) ?_
                          refine wk_iconst C (v := 0) dL_limit_200 (by decide) ?_
                          obtain ⟨i197, h⟩ := h
                          obtain ⟨S198, eS198, h⟩ := wkLt_some h
                          refine wk_iast C (hXS196 _ _ (hXS194 _ _ hIS192)).1 (hXS196 _ _ (hXS194 _ _ hIS192)).2 i197 eS198.symm dL_limit_201 ?_
                          have hWS198 : wkWF S198 := by rw [eS198]; exact hWS196
                          have hXS198 : wkExt S196 S198 := by rw [eS198]; exact wkExt.rf
                          refine wk_dup C dL_limit_202 rfl ?_
                          refine wk_iconst C (v := 3) dL_limit_203 (by decide) ?_
                          refine wk_bipush C (v := 41) dL_limit_204 (by decide) ?_
                          obtain ⟨i199, h⟩ := h
                          obtain ⟨S200, eS200, h⟩ := wkLt_some h
                          refine wk_iast C (hXS198 _ _ (hXS196 _ _ (hXS194 _ _ hIS192))).1 (hXS198 _ _ (hXS196 _ _ (hXS194 _ _ hIS192))).2 i199 eS200.symm dL_limit_206 ?_
                          have hWS200 : wkWF S200 := by rw [eS200]; exact hWS198
                          have hXS200 : wkExt S198 S200 := by rw [eS200]; exact wkExt.rf
                          refine wk_callW C hR (As := [.int l1I, .ref q191]) (cnt := 2) (tL_pick (l := l) hWS200 (hXS200 _ _ (hXS198 _ _ (hXS196 _ _ (hXS194 _ _ hIS192)))) h) rfl (wkGoodW (List.mem_of_getElem? (i := 2) rfl) (List.mem_of_getElem? (i := 3) rfl) (List.mem_of_getElem? (i := 4) rfl) hbL_limit_L_pick gdL_pick) (Nat.le_trans (by decide : 0 + 1 ≤ 1) hd) (by decide) ⟨by decide, by decide, by decide +kernel⟩ rfl rfl (Nat.le_of_ble_eq_true rfl) h190b h190c dL_limit_207 (fun v' S202 hp => ?_)
                          obtain ⟨v201, rfl, h, hWS202, hXS202⟩ := hp
                          exact E _ _ _ _ _ _ h190b h190c dL_limit_210 ⟨v201, rfl, h, hWS202, (wkExt.tr (wkExt.tr (wkExt.tr (wkExt.tr (wkExt.tr (wkExt.tr hE hXS192) hXS194) hXS196) hXS198) hXS200) hXS202)⟩
                        · rw [if_neg c189] at h
                          by_cases c206 : l0I = 109
                          · rw [if_pos c206] at h
                            rw [c206]
                            refine wk_tabIn C (tgt := 108) (off := 107) dL_limit_1 (by decide) (by decide) (by decide) (by decide) ?_
                            refine wk_iload_n C dL_limit_108 rfl rfl ?_
                            refine wk_iconst C (v := 4) dL_limit_109 (by decide) ?_
                            obtain ⟨h207a, h207b, h207c, h207d, h⟩ := h
                            refine wk_newI C hR (List.mem_of_getElem? (i := 1) rfl) h207a h207b h207c h207d dL_limit_110 (fun q208 h207e => ?_)
                            obtain ⟨S209, eS209, h⟩ := wkLt_some (h q208 h207e)
                            rw [← eS209]
                            obtain ⟨hWS209, hXS209, hIS209⟩ := wkWF_newI eS209 hW h207e
                            refine wk_dup C dL_limit_112 rfl ?_
                            refine wk_iconst C (v := 0) dL_limit_113 (by decide) ?_
                            refine wk_iconst C (v := 1) dL_limit_114 (by decide) ?_
                            obtain ⟨i210, h⟩ := h
                            obtain ⟨S211, eS211, h⟩ := wkLt_some h
                            refine wk_iast C hIS209.1 hIS209.2 i210 eS211.symm dL_limit_115 ?_
                            have hWS211 : wkWF S211 := by rw [eS211]; exact hWS209
                            have hXS211 : wkExt S209 S211 := by rw [eS211]; exact wkExt.rf
                            refine wk_dup C dL_limit_116 rfl ?_
                            refine wk_iconst C (v := 1) dL_limit_117 (by decide) ?_
                            refine wk_bipush C (v := 9) dL_limit_118 (by decide) ?_
                            obtain ⟨i212, h⟩ := h
                            obtain ⟨S213, eS213, h⟩ := wkLt_some h
                            refine wk_iast C (hXS211 _ _ hIS209).1 (hXS211 _ _ hIS209).2 i212 eS213.symm dL_limit_120 ?_
                            have hWS213 : wkWF S213 := by rw [eS213]; exact hWS211
                            have hXS213 : wkExt S211 S213 := by rw [eS213]; exact wkExt.rf
                            refine wk_dup C dL_limit_121 rfl ?_
                            refine wk_iconst C (v := 2) dL_limit_122 (by decide) ?_
                            refine wk_iconst C (v := 0) dL_limit_123 (by decide) ?_
                            obtain ⟨i214, h⟩ := h
                            obtain ⟨S215, eS215, h⟩ := wkLt_some h
                            refine wk_iast C (hXS213 _ _ (hXS211 _ _ hIS209)).1 (hXS213 _ _ (hXS211 _ _ hIS209)).2 i214 eS215.symm dL_limit_124 ?_
                            have hWS215 : wkWF S215 := by rw [eS215]; exact hWS213
                            have hXS215 : wkExt S213 S215 := by rw [eS215]; exact wkExt.rf
                            refine wk_dup C dL_limit_125 rfl ?_
                            refine wk_iconst C (v := 3) dL_limit_126 (by decide) ?_
                            refine wk_bipush C (v := 10) dL_limit_127 (by decide) ?_
                            obtain ⟨i216, h⟩ := h
                            obtain ⟨S217, eS217, h⟩ := wkLt_some h
                            refine wk_iast C (hXS215 _ _ (hXS213 _ _ (hXS211 _ _ hIS209))).1 (hXS215 _ _ (hXS213 _ _ (hXS211 _ _ hIS209))).2 i216 eS217.symm dL_limit_129 ?_
                            have hWS217 : wkWF S217 := by rw [eS217]; exact hWS215
                            have hXS217 : wkExt S215 S217 := by rw [eS217]; exact wkExt.rf
                            refine wk_callW C hR (As := [.int l1I, .ref q208]) (cnt := 2) (tL_pick (l := l) hWS217 (hXS217 _ _ (hXS215 _ _ (hXS213 _ _ (hXS211 _ _ hIS209)))) h) rfl (wkGoodW (List.mem_of_getElem? (i := 2) rfl) (List.mem_of_getElem? (i := 3) rfl) (List.mem_of_getElem? (i := 4) rfl) hbL_limit_L_pick gdL_pick) (Nat.le_trans (by decide : 0 + 1 ≤ 1) hd) (by decide) ⟨by decide, by decide, by decide +kernel⟩ rfl rfl (Nat.le_of_ble_eq_true rfl) h207b h207c dL_limit_130 (fun v' S219 hp => ?_)
                            obtain ⟨v218, rfl, h, hWS219, hXS219⟩ := hp
                            exact E _ _ _ _ _ _ h207b h207c dL_limit_133 ⟨v218, rfl, h, hWS219, (wkExt.tr (wkExt.tr (wkExt.tr (wkExt.tr (wkExt.tr (wkExt.tr hE hXS209) hXS211) hXS213) hXS215) hXS217) hXS219)⟩
                          · rw [if_neg c206] at h
                            by_cases c223 : l0I = 110
                            · rw [if_pos c223] at h
                              rw [c223]
                              refine wk_tabIn C (tgt := 263) (off := 262) dL_limit_1 (by decide) (by decide) (by decide) (by decide) ?_
                              refine wk_iload_n C dL_limit_263 rfl rfl ?_
                              refine wk_iconst C (v := 4) dL_limit_264 (by decide) ?_
                              obtain ⟨h224a, h224b, h224c, h224d, h⟩ := h
                              refine wk_newI C hR (List.mem_of_getElem? (i := 1) rfl) h224a h224b h224c h224d dL_limit_265 (fun q225 h224e => ?_)
                              obtain ⟨S226, eS226, h⟩ := wkLt_some (h q225 h224e)
                              rw [← eS226]
                              obtain ⟨hWS226, hXS226, hIS226⟩ := wkWF_newI eS226 hW h224e
                              refine wk_dup C dL_limit_267 rfl ?_
                              refine wk_iconst C (v := 0) dL_limit_268 (by decide) ?_
                              refine wk_iconst C (v := 1) dL_limit_269 (by decide) ?_
                              obtain ⟨i227, h⟩ := h
                              obtain ⟨S228, eS228, h⟩ := wkLt_some h
                              refine wk_iast C hIS226.1 hIS226.2 i227 eS228.symm dL_limit_270 ?_
                              have hWS228 : wkWF S228 := by rw [eS228]; exact hWS226
                              have hXS228 : wkExt S226 S228 := by rw [eS228]; exact wkExt.rf
                              refine wk_dup C dL_limit_271 rfl ?_
                              refine wk_iconst C (v := 1) dL_limit_272 (by decide) ?_
                              refine wk_iconst C (v := 1) dL_limit_273 (by decide) ?_
                              obtain ⟨i229, h⟩ := h
                              obtain ⟨S230, eS230, h⟩ := wkLt_some h
                              refine wk_iast C (hXS228 _ _ hIS226).1 (hXS228 _ _ hIS226).2 i229 eS230.symm dL_limit_274 ?_
                              have hWS230 : wkWF S230 := by rw [eS230]; exact hWS228
                              have hXS230 : wkExt S228 S230 := by rw [eS230]; exact wkExt.rf
                              refine wk_dup C dL_limit_275 rfl ?_
                              refine wk_iconst C (v := 2) dL_limit_276 (by decide) ?_
                              refine wk_iconst C (v := 2) dL_limit_277 (by decide) ?_
                              obtain ⟨i231, h⟩ := h
                              obtain ⟨S232, eS232, h⟩ := wkLt_some h
                              refine wk_iast C (hXS230 _ _ (hXS228 _ _ hIS226)).1 (hXS230 _ _ (hXS228 _ _ hIS226)).2 i231 eS232.symm dL_limit_278 ?_
                              have hWS232 : wkWF S232 := by rw [eS232]; exact hWS230
                              have hXS232 : wkExt S230 S232 := by rw [eS232]; exact wkExt.rf
                              refine wk_dup C dL_limit_279 rfl ?_
                              refine wk_iconst C (v := 3) dL_limit_280 (by decide) ?_
                              refine wk_sipush C (v := 500) dL_limit_281 (by decide) ?_
                              obtain ⟨i233, h⟩ := h
                              obtain ⟨S234, eS234, h⟩ := wkLt_some h
                              refine wk_iast C (hXS232 _ _ (hXS230 _ _ (hXS228 _ _ hIS226))).1 (hXS232 _ _ (hXS230 _ _ (hXS228 _ _ hIS226))).2 i233 eS234.symm dL_limit_284 ?_
                              have hWS234 : wkWF S234 := by rw [eS234]; exact hWS232
                              have hXS234 : wkExt S232 S234 := by rw [eS234]; exact wkExt.rf
                              refine wk_callW C hR (As := [.int l1I, .ref q225]) (cnt := 2) (tL_pick (l := l) hWS234 (hXS234 _ _ (hXS232 _ _ (hXS230 _ _ (hXS228 _ _ hIS226)))) h) rfl (wkGoodW (List.mem_of_getElem? (i := 2) rfl) (List.mem_of_getElem? (i := 3) rfl) (List.mem_of_getElem? (i := 4) rfl) hbL_limit_L_pick gdL_pick) (Nat.le_trans (by decide : 0 + 1 ≤ 1) hd) (by decide) ⟨by decide, by decide, by decide +kernel⟩ rfl rfl (Nat.le_of_ble_eq_true rfl) h224b h224c dL_limit_285 (fun v' S236 hp => ?_)
                              obtain ⟨v235, rfl, h, hWS236, hXS236⟩ := hp
                              exact E _ _ _ _ _ _ h224b h224c dL_limit_288 ⟨v235, rfl, h, hWS236, (wkExt.tr (wkExt.tr (wkExt.tr (wkExt.tr (wkExt.tr (wkExt.tr hE hXS226) hXS228) hXS230) hXS232) hXS234) hXS236)⟩
                            · rw [if_neg c223] at h
                              by_cases c240 : l0I = 111
                              · rw [if_pos c240] at h
                                rw [c240]
                                refine wk_tabIn C (tgt := 388) (off := 387) dL_limit_1 (by decide) (by decide) (by decide) (by decide) ?_
                                refine wk_iload_n C dL_limit_388 rfl rfl ?_
                                refine wk_iconst C (v := 4) dL_limit_389 (by decide) ?_
                                obtain ⟨h241a, h241b, h241c, h241d, h⟩ := h
                                refine wk_newI C hR (List.mem_of_getElem? (i := 1) rfl) h241a h241b h241c h241d dL_limit_390 (fun q242 h241e => ?_)
                                obtain ⟨S243, eS243, h⟩ := wkLt_some (h q242 h241e)
                                rw [← eS243]
                                obtain ⟨hWS243, hXS243, hIS243⟩ := wkWF_newI eS243 hW h241e
                                refine wk_dup C dL_limit_392 rfl ?_
                                refine wk_iconst C (v := 0) dL_limit_393 (by decide) ?_
                                refine wk_iconst C (v := 1) dL_limit_394 (by decide) ?_
                                obtain ⟨i244, h⟩ := h
                                obtain ⟨S245, eS245, h⟩ := wkLt_some h
                                refine wk_iast C hIS243.1 hIS243.2 i244 eS245.symm dL_limit_395 ?_
                                have hWS245 : wkWF S245 := by rw [eS245]; exact hWS243
                                have hXS245 : wkExt S243 S245 := by rw [eS245]; exact wkExt.rf
                                refine wk_dup C dL_limit_396 rfl ?_
                                refine wk_iconst C (v := 1) dL_limit_397 (by decide) ?_
                                refine wk_bipush C (v := 7) dL_limit_398 (by decide) ?_
                                obtain ⟨i246, h⟩ := h
                                obtain ⟨S247, eS247, h⟩ := wkLt_some h
                                refine wk_iast C (hXS245 _ _ hIS243).1 (hXS245 _ _ hIS243).2 i246 eS247.symm dL_limit_400 ?_
                                have hWS247 : wkWF S247 := by rw [eS247]; exact hWS245
                                have hXS247 : wkExt S245 S247 := by rw [eS247]; exact wkExt.rf
                                refine wk_dup C dL_limit_401 rfl ?_
                                refine wk_iconst C (v := 2) dL_limit_402 (by decide) ?_
                                refine wk_iconst C (v := 0) dL_limit_403 (by decide) ?_
                                obtain ⟨i248, h⟩ := h
                                obtain ⟨S249, eS249, h⟩ := wkLt_some h
                                refine wk_iast C (hXS247 _ _ (hXS245 _ _ hIS243)).1 (hXS247 _ _ (hXS245 _ _ hIS243)).2 i248 eS249.symm dL_limit_404 ?_
                                have hWS249 : wkWF S249 := by rw [eS249]; exact hWS247
                                have hXS249 : wkExt S247 S249 := by rw [eS249]; exact wkExt.rf
                                refine wk_dup C dL_limit_405 rfl ?_
                                refine wk_iconst C (v := 3) dL_limit_406 (by decide) ?_
                                refine wk_bipush C (v := 7) dL_limit_407 (by decide) ?_
                                obtain ⟨i250, h⟩ := h
                                obtain ⟨S251, eS251, h⟩ := wkLt_some h
                                refine wk_iast C (hXS249 _ _ (hXS247 _ _ (hXS245 _ _ hIS243))).1 (hXS249 _ _ (hXS247 _ _ (hXS245 _ _ hIS243))).2 i250 eS251.symm dL_limit_409 ?_
                                have hWS251 : wkWF S251 := by rw [eS251]; exact hWS249
                                have hXS251 : wkExt S249 S251 := by rw [eS251]; exact wkExt.rf
                                refine wk_callW C hR (As := [.int l1I, .ref q242]) (cnt := 2) (tL_pick (l := l) hWS251 (hXS251 _ _ (hXS249 _ _ (hXS247 _ _ (hXS245 _ _ hIS243)))) h) rfl (wkGoodW (List.mem_of_getElem? (i := 2) rfl) (List.mem_of_getElem? (i := 3) rfl) (List.mem_of_getElem? (i := 4) rfl) hbL_limit_L_pick gdL_pick) (Nat.le_trans (by decide : 0 + 1 ≤ 1) hd) (by decide) ⟨by decide, by decide, by decide +kernel⟩ rfl rfl (Nat.le_of_ble_eq_true rfl) h241b h241c dL_limit_410 (fun v' S253 hp => ?_)
                                obtain ⟨v252, rfl, h, hWS253, hXS253⟩ := hp
                                exact E _ _ _ _ _ _ h241b h241c dL_limit_413 ⟨v252, rfl, h, hWS253, (wkExt.tr (wkExt.tr (wkExt.tr (wkExt.tr (wkExt.tr (wkExt.tr hE hXS243) hXS245) hXS247) hXS249) hXS251) hXS253)⟩
                              · rw [if_neg c240] at h
                                by_cases c257 : l0I = 112
                                · rw [if_pos c257] at h
                                  rw [c257]
                                  refine wk_tabIn C (tgt := 160) (off := 159) dL_limit_1 (by decide) (by decide) (by decide) (by decide) ?_
                                  refine wk_iload_n C dL_limit_160 rfl rfl ?_
                                  refine wk_iconst C (v := 4) dL_limit_161 (by decide) ?_
                                  obtain ⟨h258a, h258b, h258c, h258d, h⟩ := h
                                  refine wk_newI C hR (List.mem_of_getElem? (i := 1) rfl) h258a h258b h258c h258d dL_limit_162 (fun q259 h258e => ?_)
                                  obtain ⟨S260, eS260, h⟩ := wkLt_some (h q259 h258e)
                                  rw [← eS260]
                                  obtain ⟨hWS260, hXS260, hIS260⟩ := wkWF_newI eS260 hW h258e
                                  refine wk_dup C dL_limit_164 rfl ?_
                                  refine wk_iconst C (v := 0) dL_limit_165 (by decide) ?_
                                  refine wk_iconst C (v := 1) dL_limit_166 (by decide) ?_
                                  obtain ⟨i261, h⟩ := h
                                  obtain ⟨S262, eS262, h⟩ := wkLt_some h
                                  refine wk_iast C hIS260.1 hIS260.2 i261 eS262.symm dL_limit_167 ?_
                                  have hWS262 : wkWF S262 := by rw [eS262]; exact hWS260
                                  have hXS262 : wkExt S260 S262 := by rw [eS262]; exact wkExt.rf
                                  refine wk_dup C dL_limit_168 rfl ?_
                                  refine wk_iconst C (v := 1) dL_limit_169 (by decide) ?_
                                  refine wk_bipush C (v := 7) dL_limit_170 (by decide) ?_
                                  obtain ⟨i263, h⟩ := h
                                  obtain ⟨S264, eS264, h⟩ := wkLt_some h
                                  refine wk_iast C (hXS262 _ _ hIS260).1 (hXS262 _ _ hIS260).2 i263 eS264.symm dL_limit_172 ?_
                                  have hWS264 : wkWF S264 := by rw [eS264]; exact hWS262
                                  have hXS264 : wkExt S262 S264 := by rw [eS264]; exact wkExt.rf
                                  refine wk_dup C dL_limit_173 rfl ?_
                                  refine wk_iconst C (v := 2) dL_limit_174 (by decide) ?_
                                  refine wk_iconst C (v := 0) dL_limit_175 (by decide) ?_
                                  obtain ⟨i265, h⟩ := h
                                  obtain ⟨S266, eS266, h⟩ := wkLt_some h
                                  refine wk_iast C (hXS264 _ _ (hXS262 _ _ hIS260)).1 (hXS264 _ _ (hXS262 _ _ hIS260)).2 i265 eS266.symm dL_limit_176 ?_
                                  have hWS266 : wkWF S266 := by rw [eS266]; exact hWS264
                                  have hXS266 : wkExt S264 S266 := by rw [eS266]; exact wkExt.rf
                                  refine wk_dup C dL_limit_177 rfl ?_
                                  refine wk_iconst C (v := 3) dL_limit_178 (by decide) ?_
                                  refine wk_bipush C (v := 12) dL_limit_179 (by decide) ?_
                                  obtain ⟨i267, h⟩ := h
                                  obtain ⟨S268, eS268, h⟩ := wkLt_some h
                                  refine wk_iast C (hXS266 _ _ (hXS264 _ _ (hXS262 _ _ hIS260))).1 (hXS266 _ _ (hXS264 _ _ (hXS262 _ _ hIS260))).2 i267 eS268.symm dL_limit_181 ?_
                                  have hWS268 : wkWF S268 := by rw [eS268]; exact hWS266
                                  have hXS268 : wkExt S266 S268 := by rw [eS268]; exact wkExt.rf
                                  refine wk_callW C hR (As := [.int l1I, .ref q259]) (cnt := 2) (tL_pick (l := l) hWS268 (hXS268 _ _ (hXS266 _ _ (hXS264 _ _ (hXS262 _ _ hIS260)))) h) rfl (wkGoodW (List.mem_of_getElem? (i := 2) rfl) (List.mem_of_getElem? (i := 3) rfl) (List.mem_of_getElem? (i := 4) rfl) hbL_limit_L_pick gdL_pick) (Nat.le_trans (by decide : 0 + 1 ≤ 1) hd) (by decide) ⟨by decide, by decide, by decide +kernel⟩ rfl rfl (Nat.le_of_ble_eq_true rfl) h258b h258c dL_limit_182 (fun v' S270 hp => ?_)
                                  obtain ⟨v269, rfl, h, hWS270, hXS270⟩ := hp
                                  exact E _ _ _ _ _ _ h258b h258c dL_limit_185 ⟨v269, rfl, h, hWS270, (wkExt.tr (wkExt.tr (wkExt.tr (wkExt.tr (wkExt.tr (wkExt.tr hE hXS260) hXS262) hXS264) hXS266) hXS268) hXS270)⟩
                                · rw [if_neg c257] at h
                                  by_cases c274 : l0I = 113
                                  · rw [if_pos c274] at h
                                    rw [c274]
                                    refine wk_tabIn C (tgt := 388) (off := 387) dL_limit_1 (by decide) (by decide) (by decide) (by decide) ?_
                                    refine wk_iload_n C dL_limit_388 rfl rfl ?_
                                    refine wk_iconst C (v := 4) dL_limit_389 (by decide) ?_
                                    obtain ⟨h275a, h275b, h275c, h275d, h⟩ := h
                                    refine wk_newI C hR (List.mem_of_getElem? (i := 1) rfl) h275a h275b h275c h275d dL_limit_390 (fun q276 h275e => ?_)
                                    obtain ⟨S277, eS277, h⟩ := wkLt_some (h q276 h275e)
                                    rw [← eS277]
                                    obtain ⟨hWS277, hXS277, hIS277⟩ := wkWF_newI eS277 hW h275e
                                    refine wk_dup C dL_limit_392 rfl ?_
                                    refine wk_iconst C (v := 0) dL_limit_393 (by decide) ?_
                                    refine wk_iconst C (v := 1) dL_limit_394 (by decide) ?_
                                    obtain ⟨i278, h⟩ := h
                                    obtain ⟨S279, eS279, h⟩ := wkLt_some h
                                    refine wk_iast C hIS277.1 hIS277.2 i278 eS279.symm dL_limit_395 ?_
                                    have hWS279 : wkWF S279 := by rw [eS279]; exact hWS277
                                    have hXS279 : wkExt S277 S279 := by rw [eS279]; exact wkExt.rf
                                    refine wk_dup C dL_limit_396 rfl ?_
                                    refine wk_iconst C (v := 1) dL_limit_397 (by decide) ?_
                                    refine wk_bipush C (v := 7) dL_limit_398 (by decide) ?_
                                    obtain ⟨i280, h⟩ := h
                                    obtain ⟨S281, eS281, h⟩ := wkLt_some h
                                    refine wk_iast C (hXS279 _ _ hIS277).1 (hXS279 _ _ hIS277).2 i280 eS281.symm dL_limit_400 ?_
                                    have hWS281 : wkWF S281 := by rw [eS281]; exact hWS279
                                    have hXS281 : wkExt S279 S281 := by rw [eS281]; exact wkExt.rf
                                    refine wk_dup C dL_limit_401 rfl ?_
                                    refine wk_iconst C (v := 2) dL_limit_402 (by decide) ?_
                                    refine wk_iconst C (v := 0) dL_limit_403 (by decide) ?_
                                    obtain ⟨i282, h⟩ := h
                                    obtain ⟨S283, eS283, h⟩ := wkLt_some h
                                    refine wk_iast C (hXS281 _ _ (hXS279 _ _ hIS277)).1 (hXS281 _ _ (hXS279 _ _ hIS277)).2 i282 eS283.symm dL_limit_404 ?_
                                    have hWS283 : wkWF S283 := by rw [eS283]; exact hWS281
                                    have hXS283 : wkExt S281 S283 := by rw [eS283]; exact wkExt.rf
                                    refine wk_dup C dL_limit_405 rfl ?_
                                    refine wk_iconst C (v := 3) dL_limit_406 (by decide) ?_
                                    refine wk_bipush C (v := 7) dL_limit_407 (by decide) ?_
                                    obtain ⟨i284, h⟩ := h
                                    obtain ⟨S285, eS285, h⟩ := wkLt_some h
                                    refine wk_iast C (hXS283 _ _ (hXS281 _ _ (hXS279 _ _ hIS277))).1 (hXS283 _ _ (hXS281 _ _ (hXS279 _ _ hIS277))).2 i284 eS285.symm dL_limit_409 ?_
                                    have hWS285 : wkWF S285 := by rw [eS285]; exact hWS283
                                    have hXS285 : wkExt S283 S285 := by rw [eS285]; exact wkExt.rf
                                    refine wk_callW C hR (As := [.int l1I, .ref q276]) (cnt := 2) (tL_pick (l := l) hWS285 (hXS285 _ _ (hXS283 _ _ (hXS281 _ _ (hXS279 _ _ hIS277)))) h) rfl (wkGoodW (List.mem_of_getElem? (i := 2) rfl) (List.mem_of_getElem? (i := 3) rfl) (List.mem_of_getElem? (i := 4) rfl) hbL_limit_L_pick gdL_pick) (Nat.le_trans (by decide : 0 + 1 ≤ 1) hd) (by decide) ⟨by decide, by decide, by decide +kernel⟩ rfl rfl (Nat.le_of_ble_eq_true rfl) h275b h275c dL_limit_410 (fun v' S287 hp => ?_)
                                    obtain ⟨v286, rfl, h, hWS287, hXS287⟩ := hp
                                    exact E _ _ _ _ _ _ h275b h275c dL_limit_413 ⟨v286, rfl, h, hWS287, (wkExt.tr (wkExt.tr (wkExt.tr (wkExt.tr (wkExt.tr (wkExt.tr hE hXS277) hXS279) hXS281) hXS283) hXS285) hXS287)⟩
                                  · rw [if_neg c274] at h
                                    by_cases c291 : l0I = 114
                                    · rw [if_pos c291] at h
                                      rw [c291]
                                      refine wk_tabIn C (tgt := 289) (off := 288) dL_limit_1 (by decide) (by decide) (by decide) (by decide) ?_
                                      refine wk_iload_n C dL_limit_289 rfl rfl ?_
                                      refine wk_iconst C (v := 4) dL_limit_290 (by decide) ?_
                                      obtain ⟨h292a, h292b, h292c, h292d, h⟩ := h
                                      refine wk_newI C hR (List.mem_of_getElem? (i := 1) rfl) h292a h292b h292c h292d dL_limit_291 (fun q293 h292e => ?_)
                                      obtain ⟨S294, eS294, h⟩ := wkLt_some (h q293 h292e)
                                      rw [← eS294]
                                      obtain ⟨hWS294, hXS294, hIS294⟩ := wkWF_newI eS294 hW h292e
                                      refine wk_dup C dL_limit_293 rfl ?_
                                      refine wk_iconst C (v := 0) dL_limit_294 (by decide) ?_
                                      refine wk_iconst C (v := 1) dL_limit_295 (by decide) ?_
                                      obtain ⟨i295, h⟩ := h
                                      obtain ⟨S296, eS296, h⟩ := wkLt_some h
                                      refine wk_iast C hIS294.1 hIS294.2 i295 eS296.symm dL_limit_296 ?_
                                      have hWS296 : wkWF S296 := by rw [eS296]; exact hWS294
                                      have hXS296 : wkExt S294 S296 := by rw [eS296]; exact wkExt.rf
                                      refine wk_dup C dL_limit_297 rfl ?_
                                      refine wk_iconst C (v := 1) dL_limit_298 (by decide) ?_
                                      refine wk_iconst C (v := 1) dL_limit_299 (by decide) ?_
                                      obtain ⟨i297, h⟩ := h
                                      obtain ⟨S298, eS298, h⟩ := wkLt_some h
                                      refine wk_iast C (hXS296 _ _ hIS294).1 (hXS296 _ _ hIS294).2 i297 eS298.symm dL_limit_300 ?_
                                      have hWS298 : wkWF S298 := by rw [eS298]; exact hWS296
                                      have hXS298 : wkExt S296 S298 := by rw [eS298]; exact wkExt.rf
                                      refine wk_dup C dL_limit_301 rfl ?_
                                      refine wk_iconst C (v := 2) dL_limit_302 (by decide) ?_
                                      refine wk_iconst C (v := 0) dL_limit_303 (by decide) ?_
                                      obtain ⟨i299, h⟩ := h
                                      obtain ⟨S300, eS300, h⟩ := wkLt_some h
                                      refine wk_iast C (hXS298 _ _ (hXS296 _ _ hIS294)).1 (hXS298 _ _ (hXS296 _ _ hIS294)).2 i299 eS300.symm dL_limit_304 ?_
                                      have hWS300 : wkWF S300 := by rw [eS300]; exact hWS298
                                      have hXS300 : wkExt S298 S300 := by rw [eS300]; exact wkExt.rf
                                      refine wk_dup C dL_limit_305 rfl ?_
                                      refine wk_iconst C (v := 3) dL_limit_306 (by decide) ?_
                                      refine wk_iconst C (v := 4) dL_limit_307 (by decide) ?_
                                      obtain ⟨i301, h⟩ := h
                                      obtain ⟨S302, eS302, h⟩ := wkLt_some h
                                      refine wk_iast C (hXS300 _ _ (hXS298 _ _ (hXS296 _ _ hIS294))).1 (hXS300 _ _ (hXS298 _ _ (hXS296 _ _ hIS294))).2 i301 eS302.symm dL_limit_308 ?_
                                      have hWS302 : wkWF S302 := by rw [eS302]; exact hWS300
                                      have hXS302 : wkExt S300 S302 := by rw [eS302]; exact wkExt.rf
                                      refine wk_callW C hR (As := [.int l1I, .ref q293]) (cnt := 2) (tL_pick (l := l) hWS302 (hXS302 _ _ (hXS300 _ _ (hXS298 _ _ (hXS296 _ _ hIS294)))) h) rfl (wkGoodW (List.mem_of_getElem? (i := 2) rfl) (List.mem_of_getElem? (i := 3) rfl) (List.mem_of_getElem? (i := 4) rfl) hbL_limit_L_pick gdL_pick) (Nat.le_trans (by decide : 0 + 1 ≤ 1) hd) (by decide) ⟨by decide, by decide, by decide +kernel⟩ rfl rfl (Nat.le_of_ble_eq_true rfl) h292b h292c dL_limit_309 (fun v' S304 hp => ?_)
                                      obtain ⟨v303, rfl, h, hWS304, hXS304⟩ := hp
                                      exact E _ _ _ _ _ _ h292b h292c dL_limit_312 ⟨v303, rfl, h, hWS304, (wkExt.tr (wkExt.tr (wkExt.tr (wkExt.tr (wkExt.tr (wkExt.tr hE hXS294) hXS296) hXS298) hXS300) hXS302) hXS304)⟩
                                    · rw [if_neg c291] at h
                                      by_cases c308 : l0I = 115
                                      · rw [if_pos c308] at h
                                        rw [c308]
                                        refine wk_tabIn C (tgt := 211) (off := 210) dL_limit_1 (by decide) (by decide) (by decide) (by decide) ?_
                                        refine wk_iload_n C dL_limit_211 rfl rfl ?_
                                        refine wk_iconst C (v := 4) dL_limit_212 (by decide) ?_
                                        obtain ⟨h309a, h309b, h309c, h309d, h⟩ := h
                                        refine wk_newI C hR (List.mem_of_getElem? (i := 1) rfl) h309a h309b h309c h309d dL_limit_213 (fun q310 h309e => ?_)
                                        obtain ⟨S311, eS311, h⟩ := wkLt_some (h q310 h309e)
                                        rw [← eS311]
                                        obtain ⟨hWS311, hXS311, hIS311⟩ := wkWF_newI eS311 hW h309e
                                        refine wk_dup C dL_limit_215 rfl ?_
                                        refine wk_iconst C (v := 0) dL_limit_216 (by decide) ?_
                                        refine wk_iconst C (v := 1) dL_limit_217 (by decide) ?_
                                        obtain ⟨i312, h⟩ := h
                                        obtain ⟨S313, eS313, h⟩ := wkLt_some h
                                        refine wk_iast C hIS311.1 hIS311.2 i312 eS313.symm dL_limit_218 ?_
                                        have hWS313 : wkWF S313 := by rw [eS313]; exact hWS311
                                        have hXS313 : wkExt S311 S313 := by rw [eS313]; exact wkExt.rf
                                        refine wk_dup C dL_limit_219 rfl ?_
                                        refine wk_iconst C (v := 1) dL_limit_220 (by decide) ?_
                                        refine wk_bipush C (v := 6) dL_limit_221 (by decide) ?_
                                        obtain ⟨i314, h⟩ := h
                                        obtain ⟨S315, eS315, h⟩ := wkLt_some h
                                        refine wk_iast C (hXS313 _ _ hIS311).1 (hXS313 _ _ hIS311).2 i314 eS315.symm dL_limit_223 ?_
                                        have hWS315 : wkWF S315 := by rw [eS315]; exact hWS313
                                        have hXS315 : wkExt S313 S315 := by rw [eS315]; exact wkExt.rf
                                        refine wk_dup C dL_limit_224 rfl ?_
                                        refine wk_iconst C (v := 2) dL_limit_225 (by decide) ?_
                                        refine wk_iconst C (v := 0) dL_limit_226 (by decide) ?_
                                        obtain ⟨i316, h⟩ := h
                                        obtain ⟨S317, eS317, h⟩ := wkLt_some h
                                        refine wk_iast C (hXS315 _ _ (hXS313 _ _ hIS311)).1 (hXS315 _ _ (hXS313 _ _ hIS311)).2 i316 eS317.symm dL_limit_227 ?_
                                        have hWS317 : wkWF S317 := by rw [eS317]; exact hWS315
                                        have hXS317 : wkExt S315 S317 := by rw [eS317]; exact wkExt.rf
                                        refine wk_dup C dL_limit_228 rfl ?_
                                        refine wk_iconst C (v := 3) dL_limit_229 (by decide) ?_
                                        refine wk_bipush C (v := 7) dL_limit_230 (by decide) ?_
                                        obtain ⟨i318, h⟩ := h
                                        obtain ⟨S319, eS319, h⟩ := wkLt_some h
                                        refine wk_iast C (hXS317 _ _ (hXS315 _ _ (hXS313 _ _ hIS311))).1 (hXS317 _ _ (hXS315 _ _ (hXS313 _ _ hIS311))).2 i318 eS319.symm dL_limit_232 ?_
                                        have hWS319 : wkWF S319 := by rw [eS319]; exact hWS317
                                        have hXS319 : wkExt S317 S319 := by rw [eS319]; exact wkExt.rf
                                        refine wk_callW C hR (As := [.int l1I, .ref q310]) (cnt := 2) (tL_pick (l := l) hWS319 (hXS319 _ _ (hXS317 _ _ (hXS315 _ _ (hXS313 _ _ hIS311)))) h) rfl (wkGoodW (List.mem_of_getElem? (i := 2) rfl) (List.mem_of_getElem? (i := 3) rfl) (List.mem_of_getElem? (i := 4) rfl) hbL_limit_L_pick gdL_pick) (Nat.le_trans (by decide : 0 + 1 ≤ 1) hd) (by decide) ⟨by decide, by decide, by decide +kernel⟩ rfl rfl (Nat.le_of_ble_eq_true rfl) h309b h309c dL_limit_233 (fun v' S321 hp => ?_)
                                        obtain ⟨v320, rfl, h, hWS321, hXS321⟩ := hp
                                        exact E _ _ _ _ _ _ h309b h309c dL_limit_236 ⟨v320, rfl, h, hWS321, (wkExt.tr (wkExt.tr (wkExt.tr (wkExt.tr (wkExt.tr (wkExt.tr hE hXS311) hXS313) hXS315) hXS317) hXS319) hXS321)⟩
                                      · rw [if_neg c308] at h
                                        by_cases c325 : l0I = 116
                                        · rw [if_pos c325] at h
                                          rw [c325]
                                          refine wk_tabIn C (tgt := 388) (off := 387) dL_limit_1 (by decide) (by decide) (by decide) (by decide) ?_
                                          refine wk_iload_n C dL_limit_388 rfl rfl ?_
                                          refine wk_iconst C (v := 4) dL_limit_389 (by decide) ?_
                                          obtain ⟨h326a, h326b, h326c, h326d, h⟩ := h
                                          refine wk_newI C hR (List.mem_of_getElem? (i := 1) rfl) h326a h326b h326c h326d dL_limit_390 (fun q327 h326e => ?_)
                                          obtain ⟨S328, eS328, h⟩ := wkLt_some (h q327 h326e)
                                          rw [← eS328]
                                          obtain ⟨hWS328, hXS328, hIS328⟩ := wkWF_newI eS328 hW h326e
                                          refine wk_dup C dL_limit_392 rfl ?_
                                          refine wk_iconst C (v := 0) dL_limit_393 (by decide) ?_
                                          refine wk_iconst C (v := 1) dL_limit_394 (by decide) ?_
                                          obtain ⟨i329, h⟩ := h
                                          obtain ⟨S330, eS330, h⟩ := wkLt_some h
                                          refine wk_iast C hIS328.1 hIS328.2 i329 eS330.symm dL_limit_395 ?_
                                          have hWS330 : wkWF S330 := by rw [eS330]; exact hWS328
                                          have hXS330 : wkExt S328 S330 := by rw [eS330]; exact wkExt.rf
                                          refine wk_dup C dL_limit_396 rfl ?_
                                          refine wk_iconst C (v := 1) dL_limit_397 (by decide) ?_
                                          refine wk_bipush C (v := 7) dL_limit_398 (by decide) ?_
                                          obtain ⟨i331, h⟩ := h
                                          obtain ⟨S332, eS332, h⟩ := wkLt_some h
                                          refine wk_iast C (hXS330 _ _ hIS328).1 (hXS330 _ _ hIS328).2 i331 eS332.symm dL_limit_400 ?_
                                          have hWS332 : wkWF S332 := by rw [eS332]; exact hWS330
                                          have hXS332 : wkExt S330 S332 := by rw [eS332]; exact wkExt.rf
                                          refine wk_dup C dL_limit_401 rfl ?_
                                          refine wk_iconst C (v := 2) dL_limit_402 (by decide) ?_
                                          refine wk_iconst C (v := 0) dL_limit_403 (by decide) ?_
                                          obtain ⟨i333, h⟩ := h
                                          obtain ⟨S334, eS334, h⟩ := wkLt_some h
                                          refine wk_iast C (hXS332 _ _ (hXS330 _ _ hIS328)).1 (hXS332 _ _ (hXS330 _ _ hIS328)).2 i333 eS334.symm dL_limit_404 ?_
                                          have hWS334 : wkWF S334 := by rw [eS334]; exact hWS332
                                          have hXS334 : wkExt S332 S334 := by rw [eS334]; exact wkExt.rf
                                          refine wk_dup C dL_limit_405 rfl ?_
                                          refine wk_iconst C (v := 3) dL_limit_406 (by decide) ?_
                                          refine wk_bipush C (v := 7) dL_limit_407 (by decide) ?_
                                          obtain ⟨i335, h⟩ := h
                                          obtain ⟨S336, eS336, h⟩ := wkLt_some h
                                          refine wk_iast C (hXS334 _ _ (hXS332 _ _ (hXS330 _ _ hIS328))).1 (hXS334 _ _ (hXS332 _ _ (hXS330 _ _ hIS328))).2 i335 eS336.symm dL_limit_409 ?_
                                          have hWS336 : wkWF S336 := by rw [eS336]; exact hWS334
                                          have hXS336 : wkExt S334 S336 := by rw [eS336]; exact wkExt.rf
                                          refine wk_callW C hR (As := [.int l1I, .ref q327]) (cnt := 2) (tL_pick (l := l) hWS336 (hXS336 _ _ (hXS334 _ _ (hXS332 _ _ (hXS330 _ _ hIS328)))) h) rfl (wkGoodW (List.mem_of_getElem? (i := 2) rfl) (List.mem_of_getElem? (i := 3) rfl) (List.mem_of_getElem? (i := 4) rfl) hbL_limit_L_pick gdL_pick) (Nat.le_trans (by decide : 0 + 1 ≤ 1) hd) (by decide) ⟨by decide, by decide, by decide +kernel⟩ rfl rfl (Nat.le_of_ble_eq_true rfl) h326b h326c dL_limit_410 (fun v' S338 hp => ?_)
                                          obtain ⟨v337, rfl, h, hWS338, hXS338⟩ := hp
                                          exact E _ _ _ _ _ _ h326b h326c dL_limit_413 ⟨v337, rfl, h, hWS338, (wkExt.tr (wkExt.tr (wkExt.tr (wkExt.tr (wkExt.tr (wkExt.tr hE hXS328) hXS330) hXS332) hXS334) hXS336) hXS338)⟩
                                        · rw [if_neg c325] at h
                                          by_cases c342 : l0I = 117
                                          · rw [if_pos c342] at h
                                            rw [c342]
                                            refine wk_tabIn C (tgt := 388) (off := 387) dL_limit_1 (by decide) (by decide) (by decide) (by decide) ?_
                                            refine wk_iload_n C dL_limit_388 rfl rfl ?_
                                            refine wk_iconst C (v := 4) dL_limit_389 (by decide) ?_
                                            obtain ⟨h343a, h343b, h343c, h343d, h⟩ := h
                                            refine wk_newI C hR (List.mem_of_getElem? (i := 1) rfl) h343a h343b h343c h343d dL_limit_390 (fun q344 h343e => ?_)
                                            obtain ⟨S345, eS345, h⟩ := wkLt_some (h q344 h343e)
                                            rw [← eS345]
                                            obtain ⟨hWS345, hXS345, hIS345⟩ := wkWF_newI eS345 hW h343e
                                            refine wk_dup C dL_limit_392 rfl ?_
                                            refine wk_iconst C (v := 0) dL_limit_393 (by decide) ?_
                                            refine wk_iconst C (v := 1) dL_limit_394 (by decide) ?_
                                            obtain ⟨i346, h⟩ := h
                                            obtain ⟨S347, eS347, h⟩ := wkLt_some h
                                            refine wk_iast C hIS345.1 hIS345.2 i346 eS347.symm dL_limit_395 ?_
                                            have hWS347 : wkWF S347 := by rw [eS347]; exact hWS345
                                            have hXS347 : wkExt S345 S347 := by rw [eS347]; exact wkExt.rf
                                            refine wk_dup C dL_limit_396 rfl ?_
                                            refine wk_iconst C (v := 1) dL_limit_397 (by decide) ?_
                                            refine wk_bipush C (v := 7) dL_limit_398 (by decide) ?_
                                            obtain ⟨i348, h⟩ := h
                                            obtain ⟨S349, eS349, h⟩ := wkLt_some h
                                            refine wk_iast C (hXS347 _ _ hIS345).1 (hXS347 _ _ hIS345).2 i348 eS349.symm dL_limit_400 ?_
                                            have hWS349 : wkWF S349 := by rw [eS349]; exact hWS347
                                            have hXS349 : wkExt S347 S349 := by rw [eS349]; exact wkExt.rf
                                            refine wk_dup C dL_limit_401 rfl ?_
                                            refine wk_iconst C (v := 2) dL_limit_402 (by decide) ?_
                                            refine wk_iconst C (v := 0) dL_limit_403 (by decide) ?_
                                            obtain ⟨i350, h⟩ := h
                                            obtain ⟨S351, eS351, h⟩ := wkLt_some h
                                            refine wk_iast C (hXS349 _ _ (hXS347 _ _ hIS345)).1 (hXS349 _ _ (hXS347 _ _ hIS345)).2 i350 eS351.symm dL_limit_404 ?_
                                            have hWS351 : wkWF S351 := by rw [eS351]; exact hWS349
                                            have hXS351 : wkExt S349 S351 := by rw [eS351]; exact wkExt.rf
                                            refine wk_dup C dL_limit_405 rfl ?_
                                            refine wk_iconst C (v := 3) dL_limit_406 (by decide) ?_
                                            refine wk_bipush C (v := 7) dL_limit_407 (by decide) ?_
                                            obtain ⟨i352, h⟩ := h
                                            obtain ⟨S353, eS353, h⟩ := wkLt_some h
                                            refine wk_iast C (hXS351 _ _ (hXS349 _ _ (hXS347 _ _ hIS345))).1 (hXS351 _ _ (hXS349 _ _ (hXS347 _ _ hIS345))).2 i352 eS353.symm dL_limit_409 ?_
                                            have hWS353 : wkWF S353 := by rw [eS353]; exact hWS351
                                            have hXS353 : wkExt S351 S353 := by rw [eS353]; exact wkExt.rf
                                            refine wk_callW C hR (As := [.int l1I, .ref q344]) (cnt := 2) (tL_pick (l := l) hWS353 (hXS353 _ _ (hXS351 _ _ (hXS349 _ _ (hXS347 _ _ hIS345)))) h) rfl (wkGoodW (List.mem_of_getElem? (i := 2) rfl) (List.mem_of_getElem? (i := 3) rfl) (List.mem_of_getElem? (i := 4) rfl) hbL_limit_L_pick gdL_pick) (Nat.le_trans (by decide : 0 + 1 ≤ 1) hd) (by decide) ⟨by decide, by decide, by decide +kernel⟩ rfl rfl (Nat.le_of_ble_eq_true rfl) h343b h343c dL_limit_410 (fun v' S355 hp => ?_)
                                            obtain ⟨v354, rfl, h, hWS355, hXS355⟩ := hp
                                            exact E _ _ _ _ _ _ h343b h343c dL_limit_413 ⟨v354, rfl, h, hWS355, (wkExt.tr (wkExt.tr (wkExt.tr (wkExt.tr (wkExt.tr (wkExt.tr hE hXS345) hXS347) hXS349) hXS351) hXS353) hXS355)⟩
                                          · rw [if_neg c342] at h
                                            by_cases c359 : l0I = 118
                                            · rw [if_pos c359] at h
                                              rw [c359]
                                              refine wk_tabIn C (tgt := 388) (off := 387) dL_limit_1 (by decide) (by decide) (by decide) (by decide) ?_
                                              refine wk_iload_n C dL_limit_388 rfl rfl ?_
                                              refine wk_iconst C (v := 4) dL_limit_389 (by decide) ?_
                                              obtain ⟨h360a, h360b, h360c, h360d, h⟩ := h
                                              refine wk_newI C hR (List.mem_of_getElem? (i := 1) rfl) h360a h360b h360c h360d dL_limit_390 (fun q361 h360e => ?_)
                                              obtain ⟨S362, eS362, h⟩ := wkLt_some (h q361 h360e)
                                              rw [← eS362]
                                              obtain ⟨hWS362, hXS362, hIS362⟩ := wkWF_newI eS362 hW h360e
                                              refine wk_dup C dL_limit_392 rfl ?_
                                              refine wk_iconst C (v := 0) dL_limit_393 (by decide) ?_
                                              refine wk_iconst C (v := 1) dL_limit_394 (by decide) ?_
                                              obtain ⟨i363, h⟩ := h
                                              obtain ⟨S364, eS364, h⟩ := wkLt_some h
                                              refine wk_iast C hIS362.1 hIS362.2 i363 eS364.symm dL_limit_395 ?_
                                              have hWS364 : wkWF S364 := by rw [eS364]; exact hWS362
                                              have hXS364 : wkExt S362 S364 := by rw [eS364]; exact wkExt.rf
                                              refine wk_dup C dL_limit_396 rfl ?_
                                              refine wk_iconst C (v := 1) dL_limit_397 (by decide) ?_
                                              refine wk_bipush C (v := 7) dL_limit_398 (by decide) ?_
                                              obtain ⟨i365, h⟩ := h
                                              obtain ⟨S366, eS366, h⟩ := wkLt_some h
                                              refine wk_iast C (hXS364 _ _ hIS362).1 (hXS364 _ _ hIS362).2 i365 eS366.symm dL_limit_400 ?_
                                              have hWS366 : wkWF S366 := by rw [eS366]; exact hWS364
                                              have hXS366 : wkExt S364 S366 := by rw [eS366]; exact wkExt.rf
                                              refine wk_dup C dL_limit_401 rfl ?_
                                              refine wk_iconst C (v := 2) dL_limit_402 (by decide) ?_
                                              refine wk_iconst C (v := 0) dL_limit_403 (by decide) ?_
                                              obtain ⟨i367, h⟩ := h
                                              obtain ⟨S368, eS368, h⟩ := wkLt_some h
                                              refine wk_iast C (hXS366 _ _ (hXS364 _ _ hIS362)).1 (hXS366 _ _ (hXS364 _ _ hIS362)).2 i367 eS368.symm dL_limit_404 ?_
                                              have hWS368 : wkWF S368 := by rw [eS368]; exact hWS366
                                              have hXS368 : wkExt S366 S368 := by rw [eS368]; exact wkExt.rf
                                              refine wk_dup C dL_limit_405 rfl ?_
                                              refine wk_iconst C (v := 3) dL_limit_406 (by decide) ?_
                                              refine wk_bipush C (v := 7) dL_limit_407 (by decide) ?_
                                              obtain ⟨i369, h⟩ := h
                                              obtain ⟨S370, eS370, h⟩ := wkLt_some h
                                              refine wk_iast C (hXS368 _ _ (hXS366 _ _ (hXS364 _ _ hIS362))).1 (hXS368 _ _ (hXS366 _ _ (hXS364 _ _ hIS362))).2 i369 eS370.symm dL_limit_409 ?_
                                              have hWS370 : wkWF S370 := by rw [eS370]; exact hWS368
                                              have hXS370 : wkExt S368 S370 := by rw [eS370]; exact wkExt.rf
                                              refine wk_callW C hR (As := [.int l1I, .ref q361]) (cnt := 2) (tL_pick (l := l) hWS370 (hXS370 _ _ (hXS368 _ _ (hXS366 _ _ (hXS364 _ _ hIS362)))) h) rfl (wkGoodW (List.mem_of_getElem? (i := 2) rfl) (List.mem_of_getElem? (i := 3) rfl) (List.mem_of_getElem? (i := 4) rfl) hbL_limit_L_pick gdL_pick) (Nat.le_trans (by decide : 0 + 1 ≤ 1) hd) (by decide) ⟨by decide, by decide, by decide +kernel⟩ rfl rfl (Nat.le_of_ble_eq_true rfl) h360b h360c dL_limit_410 (fun v' S372 hp => ?_)
                                              obtain ⟨v371, rfl, h, hWS372, hXS372⟩ := hp
                                              exact E _ _ _ _ _ _ h360b h360c dL_limit_413 ⟨v371, rfl, h, hWS372, (wkExt.tr (wkExt.tr (wkExt.tr (wkExt.tr (wkExt.tr (wkExt.tr hE hXS362) hXS364) hXS366) hXS368) hXS370) hXS372)⟩
                                            · rw [if_neg c359] at h
                                              by_cases c376 : l0I = 119
                                              · rw [if_pos c376] at h
                                                rw [c376]
                                                refine wk_tabIn C (tgt := 337) (off := 336) dL_limit_1 (by decide) (by decide) (by decide) (by decide) ?_
                                                refine wk_iload_n C dL_limit_337 rfl rfl ?_
                                                refine wk_iconst C (v := 4) dL_limit_338 (by decide) ?_
                                                obtain ⟨h377a, h377b, h377c, h377d, h⟩ := h
                                                refine wk_newI C hR (List.mem_of_getElem? (i := 1) rfl) h377a h377b h377c h377d dL_limit_339 (fun q378 h377e => ?_)
                                                obtain ⟨S379, eS379, h⟩ := wkLt_some (h q378 h377e)
                                                rw [← eS379]
                                                obtain ⟨hWS379, hXS379, hIS379⟩ := wkWF_newI eS379 hW h377e
                                                refine wk_dup C dL_limit_341 rfl ?_
                                                refine wk_iconst C (v := 0) dL_limit_342 (by decide) ?_
                                                refine wk_iconst C (v := 1) dL_limit_343 (by decide) ?_
                                                obtain ⟨i380, h⟩ := h
                                                obtain ⟨S381, eS381, h⟩ := wkLt_some h
                                                refine wk_iast C hIS379.1 hIS379.2 i380 eS381.symm dL_limit_344 ?_
                                                have hWS381 : wkWF S381 := by rw [eS381]; exact hWS379
                                                have hXS381 : wkExt S379 S381 := by rw [eS381]; exact wkExt.rf
                                                refine wk_dup C dL_limit_345 rfl ?_
                                                refine wk_iconst C (v := 1) dL_limit_346 (by decide) ?_
                                                refine wk_iconst C (v := 1) dL_limit_347 (by decide) ?_
                                                obtain ⟨i382, h⟩ := h
                                                obtain ⟨S383, eS383, h⟩ := wkLt_some h
                                                refine wk_iast C (hXS381 _ _ hIS379).1 (hXS381 _ _ hIS379).2 i382 eS383.symm dL_limit_348 ?_
                                                have hWS383 : wkWF S383 := by rw [eS383]; exact hWS381
                                                have hXS383 : wkExt S381 S383 := by rw [eS383]; exact wkExt.rf
                                                refine wk_dup C dL_limit_349 rfl ?_
                                                refine wk_iconst C (v := 2) dL_limit_350 (by decide) ?_
                                                refine wk_iconst C (v := 0) dL_limit_351 (by decide) ?_
                                                obtain ⟨i384, h⟩ := h
                                                obtain ⟨S385, eS385, h⟩ := wkLt_some h
                                                refine wk_iast C (hXS383 _ _ (hXS381 _ _ hIS379)).1 (hXS383 _ _ (hXS381 _ _ hIS379)).2 i384 eS385.symm dL_limit_352 ?_
                                                have hWS385 : wkWF S385 := by rw [eS385]; exact hWS383
                                                have hXS385 : wkExt S383 S385 := by rw [eS385]; exact wkExt.rf
                                                refine wk_dup C dL_limit_353 rfl ?_
                                                refine wk_iconst C (v := 3) dL_limit_354 (by decide) ?_
                                                refine wk_bipush C (v := 8) dL_limit_355 (by decide) ?_
                                                obtain ⟨i386, h⟩ := h
                                                obtain ⟨S387, eS387, h⟩ := wkLt_some h
                                                refine wk_iast C (hXS385 _ _ (hXS383 _ _ (hXS381 _ _ hIS379))).1 (hXS385 _ _ (hXS383 _ _ (hXS381 _ _ hIS379))).2 i386 eS387.symm dL_limit_357 ?_
                                                have hWS387 : wkWF S387 := by rw [eS387]; exact hWS385
                                                have hXS387 : wkExt S385 S387 := by rw [eS387]; exact wkExt.rf
                                                refine wk_callW C hR (As := [.int l1I, .ref q378]) (cnt := 2) (tL_pick (l := l) hWS387 (hXS387 _ _ (hXS385 _ _ (hXS383 _ _ (hXS381 _ _ hIS379)))) h) rfl (wkGoodW (List.mem_of_getElem? (i := 2) rfl) (List.mem_of_getElem? (i := 3) rfl) (List.mem_of_getElem? (i := 4) rfl) hbL_limit_L_pick gdL_pick) (Nat.le_trans (by decide : 0 + 1 ≤ 1) hd) (by decide) ⟨by decide, by decide, by decide +kernel⟩ rfl rfl (Nat.le_of_ble_eq_true rfl) h377b h377c dL_limit_358 (fun v' S389 hp => ?_)
                                                obtain ⟨v388, rfl, h, hWS389, hXS389⟩ := hp
                                                exact E _ _ _ _ _ _ h377b h377c dL_limit_361 ⟨v388, rfl, h, hWS389, (wkExt.tr (wkExt.tr (wkExt.tr (wkExt.tr (wkExt.tr (wkExt.tr hE hXS379) hXS381) hXS383) hXS385) hXS387) hXS389)⟩
                                              · rw [if_neg c376] at h
                                                refine wk_tabOut C (tgt := 388) dL_limit_1 (wkOut (fun z h1 h2 e => by
                                                    have hz : z = 97 ∨ z = 98 ∨ z = 99 ∨ z = 100 ∨ z = 101 ∨ z = 102 ∨ z = 103 ∨ z = 104 ∨ z = 105 ∨ z = 106 ∨ z = 107 ∨ z = 108 ∨ z = 109 ∨ z = 110 ∨ z = 111 ∨ z = 112 ∨ z = 113 ∨ z = 114 ∨ z = 115 ∨ z = 116 ∨ z = 117 ∨ z = 118 ∨ z = 119 := by omega
                                                    rcases hz with rfl | rfl | rfl | rfl | rfl | rfl | rfl | rfl | rfl | rfl | rfl | rfl | rfl | rfl | rfl | rfl | rfl | rfl | rfl | rfl | rfl | rfl | rfl
                                                    · exact c2 e
                                                    · exact c19 e
                                                    · exact c36 e
                                                    · exact c53 e
                                                    · exact c70 e
                                                    · exact c87 e
                                                    · exact c104 e
                                                    · exact c121 e
                                                    · exact c138 e
                                                    · exact c155 e
                                                    · exact c172 e
                                                    · exact c189 e
                                                    · exact c206 e
                                                    · exact c223 e
                                                    · exact c240 e
                                                    · exact c257 e
                                                    · exact c274 e
                                                    · exact c291 e
                                                    · exact c308 e
                                                    · exact c325 e
                                                    · exact c342 e
                                                    · exact c359 e
                                                    · exact c376 e)) (by decide) ?_
                                                refine wk_iload_n C dL_limit_388 rfl rfl ?_
                                                refine wk_iconst C (v := 4) dL_limit_389 (by decide) ?_
                                                obtain ⟨h393a, h393b, h393c, h393d, h⟩ := h
                                                refine wk_newI C hR (List.mem_of_getElem? (i := 1) rfl) h393a h393b h393c h393d dL_limit_390 (fun q394 h393e => ?_)
                                                obtain ⟨S395, eS395, h⟩ := wkLt_some (h q394 h393e)
                                                rw [← eS395]
                                                obtain ⟨hWS395, hXS395, hIS395⟩ := wkWF_newI eS395 hW h393e
                                                refine wk_dup C dL_limit_392 rfl ?_
                                                refine wk_iconst C (v := 0) dL_limit_393 (by decide) ?_
                                                refine wk_iconst C (v := 1) dL_limit_394 (by decide) ?_
                                                obtain ⟨i396, h⟩ := h
                                                obtain ⟨S397, eS397, h⟩ := wkLt_some h
                                                refine wk_iast C hIS395.1 hIS395.2 i396 eS397.symm dL_limit_395 ?_
                                                have hWS397 : wkWF S397 := by rw [eS397]; exact hWS395
                                                have hXS397 : wkExt S395 S397 := by rw [eS397]; exact wkExt.rf
                                                refine wk_dup C dL_limit_396 rfl ?_
                                                refine wk_iconst C (v := 1) dL_limit_397 (by decide) ?_
                                                refine wk_bipush C (v := 7) dL_limit_398 (by decide) ?_
                                                obtain ⟨i398, h⟩ := h
                                                obtain ⟨S399, eS399, h⟩ := wkLt_some h
                                                refine wk_iast C (hXS397 _ _ hIS395).1 (hXS397 _ _ hIS395).2 i398 eS399.symm dL_limit_400 ?_
                                                have hWS399 : wkWF S399 := by rw [eS399]; exact hWS397
                                                have hXS399 : wkExt S397 S399 := by rw [eS399]; exact wkExt.rf
                                                refine wk_dup C dL_limit_401 rfl ?_
                                                refine wk_iconst C (v := 2) dL_limit_402 (by decide) ?_
                                                refine wk_iconst C (v := 0) dL_limit_403 (by decide) ?_
                                                obtain ⟨i400, h⟩ := h
                                                obtain ⟨S401, eS401, h⟩ := wkLt_some h
                                                refine wk_iast C (hXS399 _ _ (hXS397 _ _ hIS395)).1 (hXS399 _ _ (hXS397 _ _ hIS395)).2 i400 eS401.symm dL_limit_404 ?_
                                                have hWS401 : wkWF S401 := by rw [eS401]; exact hWS399
                                                have hXS401 : wkExt S399 S401 := by rw [eS401]; exact wkExt.rf
                                                refine wk_dup C dL_limit_405 rfl ?_
                                                refine wk_iconst C (v := 3) dL_limit_406 (by decide) ?_
                                                refine wk_bipush C (v := 7) dL_limit_407 (by decide) ?_
                                                obtain ⟨i402, h⟩ := h
                                                obtain ⟨S403, eS403, h⟩ := wkLt_some h
                                                refine wk_iast C (hXS401 _ _ (hXS399 _ _ (hXS397 _ _ hIS395))).1 (hXS401 _ _ (hXS399 _ _ (hXS397 _ _ hIS395))).2 i402 eS403.symm dL_limit_409 ?_
                                                have hWS403 : wkWF S403 := by rw [eS403]; exact hWS401
                                                have hXS403 : wkExt S401 S403 := by rw [eS403]; exact wkExt.rf
                                                refine wk_callW C hR (As := [.int l1I, .ref q394]) (cnt := 2) (tL_pick (l := l) hWS403 (hXS403 _ _ (hXS401 _ _ (hXS399 _ _ (hXS397 _ _ hIS395)))) h) rfl (wkGoodW (List.mem_of_getElem? (i := 2) rfl) (List.mem_of_getElem? (i := 3) rfl) (List.mem_of_getElem? (i := 4) rfl) hbL_limit_L_pick gdL_pick) (Nat.le_trans (by decide : 0 + 1 ≤ 1) hd) (by decide) ⟨by decide, by decide, by decide +kernel⟩ rfl rfl (Nat.le_of_ble_eq_true rfl) h393b h393c dL_limit_410 (fun v' S405 hp => ?_)
                                                obtain ⟨v404, rfl, h, hWS405, hXS405⟩ := hp
                                                exact E _ _ _ _ _ _ h393b h393c dL_limit_413 ⟨v404, rfl, h, hWS405, (wkExt.tr (wkExt.tr (wkExt.tr (wkExt.tr (wkExt.tr (wkExt.tr hE hXS395) hXS397) hXS399) hXS401) hXS403) hXS405)⟩
