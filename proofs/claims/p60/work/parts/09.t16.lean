def wvX8_signInRow : List Cond := .code yX8_signInRow cX8_signInRow 2 (some .int) :: (([.fieldLink RX8 173 "Witnessworks$Numbers" "chainCount" "I", .methodLink RX8 210 Lib.Math.max.name, .static Lib.Math.max.name, .initialized "java/lang/Math", .code Lib.Math.max.name Lib.Math.max.code 2 (some .int), .methodLink RX8 215 yX8_senseAt, .instanceMethod yX8_senseAt, .selects RX8 yX8_senseAt yX8_senseAt, .initialized RX8] : List Cond) ++ ((wsX80) ++ (wvX8_senseAt)))
theorem huX8_signInRow_8 : ∀ w ∈ u_ws RX8 TX8 9, w ∈ wvX8_signInRow := fun w h => List.mem_cons_of_mem _ (List.mem_append_right _ (List.mem_append_left _ h))
theorem hbX8_signInRow_X8_senseAt : ∀ w ∈ wvX8_senseAt, w ∈ wvX8_signInRow := fun w h => List.mem_cons_of_mem _ (List.mem_append_right _ (List.mem_append_right _ h))
theorem gdX8_signInRow : ∀ w ∈ wvX8_signInRow, wkGd w := wkGdC rfl (wkGdA (wkGdL (by decide +kernel)) (wkGdA gdX8 gdX8_senseAt))
def rX8_signInRow (F : Nat) (l0A : Nat) (l1I : Int32) (S : wPS) (Φ : (Int32 → wPS → Prop)) : Prop :=
  ¬ (if (1 : Int32) < (gNumbers_chainCount S l0A) then (gNumbers_chainCount S l0A) else (1 : Int32)) = 0 ∧ if (gNumbers_chainCount S l0A) ≤ l1I then (rX8_senseAt F l0A (l1I - l1I / (if (1 : Int32) < (gNumbers_chainCount S l0A) then (gNumbers_chainCount S l0A) else (1 : Int32)) * (if (1 : Int32) < (gNumbers_chainCount S l0A) then (gNumbers_chainCount S l0A) else (1 : Int32))) (0 : Int32) (1 : Int32) S fun v3 S4 => Φ v3 S4) else (rX8_senseAt F l0A (l1I - l1I / (if (1 : Int32) < (gNumbers_chainCount S l0A) then (gNumbers_chainCount S l0A) else (1 : Int32)) * (if (1 : Int32) < (gNumbers_chainCount S l0A) then (gNumbers_chainCount S l0A) else (1 : Int32))) (0 : Int32) (0 : Int32) S fun v8 S9 => Φ v8 S9)
set_option maxHeartbeats 4000000 in
set_option maxRecDepth 100000 in
theorem tX8_signInRow {l : Launch} {g : wkG} {F : Nat}  {S : wPS} {l0A : Nat} {l1I : Int32} {Φ : (Int32 → wPS → Prop)} (hW : wkWF S) (hl0A : wkIs S l0A 8) (h : rX8_signInRow F l0A l1I S Φ) : wkMet l g yX8_signInRow wvX8_signInRow 1 0 0 [.ref l0A, .int l1I] S (fun v' S'' => ∃ v : Int32, v' = some (.int v) ∧ Φ v S'' ∧ wkWF S'' ∧ wkExt S S'') := by
  refine wkMet_of (ret := (some .int)) (by decide) rfl (Nat.le_of_ble_eq_true rfl) (fun X hg C hR E => ?_)
  subst hg
  have hE : wkExt S S := wkExt.rf
  have hd : 1 ≤ 1 := Nat.le_refl _
  show wkGo l X 2 0 0 0 S [some (.ref l0A), some (.int l1I)] []
  unfold rX8_signInRow at h
  refine wk_aload_n C dX8_signInRow_0 rfl rfl ?_
  refine wk_iload_n C dX8_signInRow_1 rfl rfl ?_
  refine wk_iconst C (v := 1) dX8_signInRow_2 (by decide) ?_
  refine wk_aload_n C dX8_signInRow_3 rfl rfl ?_
  refine wk_get C (v := .int (gNumbers_chainCount S l0A)) huX8_signInRow_8 hl0A.1 (fun cy => wAt_8 cy _ hl0A.2) rfl 8 (by decide) (List.mem_of_getElem? (i := 1) rfl) rfl rfl dX8_signInRow_4 ?_
  refine wk_mmax C hR (List.mem_of_getElem? (i := 2) rfl) (List.mem_of_getElem? (i := 3) rfl) (List.mem_of_getElem? (i := 4) rfl) (List.mem_of_getElem? (i := 5) rfl) (Nat.le_trans (by decide) hd) (Nat.le_refl 0) (Nat.le_refl 0) (Nat.le_of_ble_eq_true rfl) rfl dX8_signInRow_7 ?_
  obtain ⟨z1, h⟩ := h
  refine wk_irem C dX8_signInRow_10 z1 rfl ?_
  refine wk_iconst C (v := 0) dX8_signInRow_11 (by decide) ?_
  refine wk_iload_n C dX8_signInRow_12 rfl rfl ?_
  refine wk_aload_n C dX8_signInRow_13 rfl rfl ?_
  refine wk_get C (v := .int (gNumbers_chainCount S l0A)) huX8_signInRow_8 hl0A.1 (fun cy => wAt_8 cy _ hl0A.2) rfl 8 (by decide) (List.mem_of_getElem? (i := 1) rfl) rfl rfl dX8_signInRow_14 ?_
  refine wk_icmp_ge C (tgt := 24) dX8_signInRow_17 (by decide) (fun c2 => ?_) (fun c2 => ?_)
  · rw [if_pos c2] at h
    refine wk_iconst C (v := 1) dX8_signInRow_24 (by decide) ?_
    refine wk_callV C hR (As := [.int (l1I - l1I / (if (1 : Int32) < (gNumbers_chainCount S l0A) then (gNumbers_chainCount S l0A) else (1 : Int32)) * (if (1 : Int32) < (gNumbers_chainCount S l0A) then (gNumbers_chainCount S l0A) else (1 : Int32))), .int (0 : Int32), .int (1 : Int32)]) (cnt := 3) (tX8_senseAt (l := l) hW hl0A h) rfl (wkGoodV (List.mem_of_getElem? (i := 6) rfl) (List.mem_of_getElem? (i := 7) rfl) (List.mem_of_getElem? (i := 8) rfl) (List.mem_of_getElem? (i := 9) rfl) hbX8_signInRow_X8_senseAt gdX8_senseAt) (Nat.le_trans (by decide : 0 + 1 ≤ 1) hd) (by decide) hl0A.1 (fun cy => wAt_8 cy _ hl0A.2) rfl ⟨by decide, by decide, by decide +kernel⟩ rfl rfl (Nat.le_of_ble_eq_true rfl) (Nat.le_refl 0) (Nat.le_refl 0) dX8_signInRow_25 (fun v' S4 hp => ?_)
    obtain ⟨v3, rfl, h, hWS4, hXS4⟩ := hp
    exact E _ _ _ _ _ _ (Nat.le_refl 0) (Nat.le_refl 0) dX8_signInRow_28 ⟨v3, rfl, h, hWS4, (wkExt.tr hE hXS4)⟩
  · rw [if_neg c2] at h
    refine wk_iconst C (v := 0) dX8_signInRow_20 (by decide) ?_
    refine wk_goto C (tgt := 25) dX8_signInRow_21 (by decide) ?_
    refine wk_callV C hR (As := [.int (l1I - l1I / (if (1 : Int32) < (gNumbers_chainCount S l0A) then (gNumbers_chainCount S l0A) else (1 : Int32)) * (if (1 : Int32) < (gNumbers_chainCount S l0A) then (gNumbers_chainCount S l0A) else (1 : Int32))), .int (0 : Int32), .int (0 : Int32)]) (cnt := 3) (tX8_senseAt (l := l) hW hl0A h) rfl (wkGoodV (List.mem_of_getElem? (i := 6) rfl) (List.mem_of_getElem? (i := 7) rfl) (List.mem_of_getElem? (i := 8) rfl) (List.mem_of_getElem? (i := 9) rfl) hbX8_signInRow_X8_senseAt gdX8_senseAt) (Nat.le_trans (by decide : 0 + 1 ≤ 1) hd) (by decide) hl0A.1 (fun cy => wAt_8 cy _ hl0A.2) rfl ⟨by decide, by decide, by decide +kernel⟩ rfl rfl (Nat.le_of_ble_eq_true rfl) (Nat.le_refl 0) (Nat.le_refl 0) dX8_signInRow_25 (fun v' S9 hp => ?_)
    obtain ⟨v8, rfl, h, hWS9, hXS9⟩ := hp
    exact E _ _ _ _ _ _ (Nat.le_refl 0) (Nat.le_refl 0) dX8_signInRow_28 ⟨v8, rfl, h, hWS9, (wkExt.tr hE hXS9)⟩
def wvX9_init : List Cond := .code yX9_init cX9_init 1 none :: (([.methodLink RX9 1 objectInit, .instanceMethod objectInit, .code objectInit ⟨#[0xb1]⟩ 1 none, .arrayClass .int, .fieldLink RX9 7 "Witnessworks$Row" "numbers" "[I"] : List Cond) ++ ((wsX90) ++ ([])))
theorem huX9_init_9 : ∀ w ∈ u_ws RX9 TX9 2, w ∈ wvX9_init := fun w h => List.mem_cons_of_mem _ (List.mem_append_right _ (List.mem_append_left _ h))
theorem gdX9_init : ∀ w ∈ wvX9_init, wkGd w := wkGdC rfl (wkGdA (wkGdL (by decide +kernel)) (wkGdA gdX9 (fun _ h => absurd h List.not_mem_nil)))
def rX9_init (F : Nat) (k n : Nat) (l0A : Nat) (S : wPS) (Φ : (Unit → wPS → Prop)) : Prop :=
  ¬ (16 : Int32) < 0 ∧ 0 + 1 ≤ k ∧ 0 + ((16 : Int32)).toNatClampNeg ≤ n ∧ ((16 : Int32)).toNatClampNeg * 4 ≤ 536870912 ∧ ∀ q2 : Nat, ¬ q2 ∈ S.L → wkLt (wnI S q2 13 ((16 : Int32)).toNatClampNeg (fun _ => 0)) fun S3 => wkLt (wu_Row_numbers S3 l0A (some q2)) fun S4 => Φ () S4
set_option maxHeartbeats 4000000 in
set_option maxRecDepth 100000 in
theorem tX9_init {l : Launch} {g : wkG} {F : Nat} {k n : Nat}  {S : wPS} {l0A : Nat} {Φ : (Unit → wPS → Prop)} (hW : wkTT S) (hl0A : wkIs S l0A 9) (h : rX9_init F k n l0A S Φ) : wkMet l g yX9_init wvX9_init 1 k n [.ref l0A] S (fun v' S'' => ∃ v : Unit, v' = none ∧ Φ v S'' ∧ wkTT S'' ∧ wkExt S S'') := by
  refine wkMet_ofI (ret := none) (plainFor_of_name (by decide)) rfl rfl (Nat.le_of_ble_eq_true rfl) (fun X hg C hR hI0 E => ?_)
  subst hg
  have hE : wkExt S S := wkExt.rf
  have hd : 1 ≤ 1 := Nat.le_refl _
  show wkGo l X 1 0 0 0 S [some (.ref l0A)] []
  unfold rX9_init at h
  refine wk_aload_n C dX9_init_0 rfl rfl ?_
  refine wk_objInit C hR (List.mem_of_getElem? (i := 1) rfl) (List.mem_of_getElem? (i := 2) rfl) (List.mem_of_getElem? (i := 3) rfl) (Nat.le_trans (by decide) hd) (Nat.le_of_ble_eq_true rfl) dX9_init_1 ?_
  refine wk_aload_n C dX9_init_4 rfl rfl ?_
  refine wk_bipush C (v := 16) dX9_init_5 (by decide) ?_
  obtain ⟨h1a, h1b, h1c, h1d, h⟩ := h
  refine wk_newI C hR (List.mem_of_getElem? (i := 4) rfl) h1a h1b h1c h1d dX9_init_7 (fun q2 h1e => ?_)
  obtain ⟨S3, eS3, h⟩ := wkLt_some (h q2 h1e)
  rw [← eS3]
  obtain ⟨hXS3, hIS3⟩ := wkExt_newI eS3 h1e
  have hWS3 : wkTT S3 := trivial
  obtain ⟨S4, eS4, h⟩ := wkLt_some h
  refine wk_put C (S' := S4) huX9_init_9 (hXS3 _ _ hl0A).1 (fun cy => wAt_9 cy _ (hXS3 _ _ hl0A).2) rfl 0 (by decide) (List.mem_of_getElem? (i := 5) rfl) rfl tyX9_ok nmX9 rfl (ty := (.array .int)) rfl rfl rfl (by show 0 < 2; decide) (fun cy b => by rw [eS4]; exact wSt_9_0 cy _ (hXS3 _ _ hl0A).2 (some q2) b) (by rw [eS4]) dX9_init_9 ?_
  have hWS4 : wkTT S4 := trivial
  have hXS4 : wkExt S3 S4 := by rw [eS4]; exact wkExt.rf
  exact E _ _ _ _ _ h1b h1c dX9_init_12 ⟨(), rfl, h, hWS4, (wkExt.tr (wkExt.tr hE hXS3) hXS4)⟩
def wvX9_clear : List Cond := .code yX9_clear cX9_clear 1 none :: (([.fieldLink RX9 13 "Witnessworks$Row" "count" "I"] : List Cond) ++ ((wsX90) ++ ([])))
theorem huX9_clear_9 : ∀ w ∈ u_ws RX9 TX9 2, w ∈ wvX9_clear := fun w h => List.mem_cons_of_mem _ (List.mem_append_right _ (List.mem_append_left _ h))
theorem gdX9_clear : ∀ w ∈ wvX9_clear, wkGd w := wkGdC rfl (wkGdA (wkGdL (by decide +kernel)) (wkGdA gdX9 (fun _ h => absurd h List.not_mem_nil)))
def rX9_clear (F : Nat) (l0A : Nat) (S : wPS) (Φ : (Unit → wPS → Prop)) : Prop :=
  wkLt (wu_Row_count S l0A (0 : Int32)) fun S1 => Φ () S1
set_option maxHeartbeats 4000000 in
set_option maxRecDepth 100000 in
theorem tX9_clear {l : Launch} {g : wkG} {F : Nat}  {S : wPS} {l0A : Nat} {Φ : (Unit → wPS → Prop)} (hW : wkWF S) (hl0A : wkIs S l0A 9) (h : rX9_clear F l0A S Φ) : wkMet l g yX9_clear wvX9_clear 0 0 0 [.ref l0A] S (fun v' S'' => ∃ v : Unit, v' = none ∧ Φ v S'' ∧ wkWF S'' ∧ wkExt S S'') := by
  refine wkMet_of (ret := none) (by decide) rfl (Nat.le_of_ble_eq_true rfl) (fun X hg C hR E => ?_)
  subst hg
  have hE : wkExt S S := wkExt.rf
  have hd : 0 ≤ 0 := Nat.le_refl _
  show wkGo l X 1 0 0 0 S [some (.ref l0A)] []
  unfold rX9_clear at h
  refine wk_aload_n C dX9_clear_0 rfl rfl ?_
  refine wk_iconst C (v := 0) dX9_clear_1 (by decide) ?_
  obtain ⟨S1, eS1, h⟩ := wkLt_some h
  refine wk_put C (S' := S1) huX9_clear_9 hl0A.1 (fun cy => wAt_9 cy _ hl0A.2) rfl 1 (by decide) (List.mem_of_getElem? (i := 1) rfl) rfl tyX9_ok nmX9 rfl (ty := .int) rfl rfl rfl (by show 1 < 2; decide) (fun cy b => by rw [eS1]; exact wSt_9_1 cy _ hl0A.2 _ b) (by rw [eS1]) dX9_clear_2 ?_
  have hWS1 : wkWF S1 := by rw [eS1]; exact hW
  have hXS1 : wkExt S S1 := by rw [eS1]; exact wkExt.rf
  exact E _ _ _ _ _ (Nat.le_refl 0) (Nat.le_refl 0) dX9_clear_5 ⟨(), rfl, h, hWS1, (wkExt.tr hE hXS1)⟩
def wvX9_at : List Cond := .code yX9_at cX9_at 2 (some .int) :: (([.fieldLink RX9 13 "Witnessworks$Row" "count" "I", .fieldLink RX9 7 "Witnessworks$Row" "numbers" "[I"] : List Cond) ++ ((wsX90) ++ ([])))
theorem huX9_at_9 : ∀ w ∈ u_ws RX9 TX9 2, w ∈ wvX9_at := fun w h => List.mem_cons_of_mem _ (List.mem_append_right _ (List.mem_append_left _ h))
theorem gdX9_at : ∀ w ∈ wvX9_at, wkGd w := wkGdC rfl (wkGdA (wkGdL (by decide +kernel)) (wkGdA gdX9 (fun _ h => absurd h List.not_mem_nil)))
def rX9_at (F : Nat) (l0A : Nat) (l1I : Int32) (S : wPS) (Φ : (Int32 → wPS → Prop)) : Prop :=
  if l1I < 0 then (Φ (0 : Int32) S) else (if (gRow_count S l0A) ≤ l1I then (Φ (0 : Int32) S) else (¬ (l1I < 0 ∨ S.len (wkAd (gRow_numbers S l0A)) ≤ (l1I).toNatClampNeg) ∧ Φ (S.rI (wkAd (gRow_numbers S l0A)) (l1I).toNatClampNeg) S))
set_option maxHeartbeats 4000000 in
set_option maxRecDepth 100000 in
theorem tX9_at {l : Launch} {g : wkG} {F : Nat}  {S : wPS} {l0A : Nat} {l1I : Int32} {Φ : (Int32 → wPS → Prop)} (hW : wkWF S) (hl0A : wkIs S l0A 9) (h : rX9_at F l0A l1I S Φ) : wkMet l g yX9_at wvX9_at 0 0 0 [.ref l0A, .int l1I] S (fun v' S'' => ∃ v : Int32, v' = some (.int v) ∧ Φ v S'' ∧ wkWF S'' ∧ wkExt S S'') := by
  refine wkMet_of (ret := (some .int)) (by decide) rfl (Nat.le_of_ble_eq_true rfl) (fun X hg C hR E => ?_)
  subst hg
  have hE : wkExt S S := wkExt.rf
  have hd : 0 ≤ 0 := Nat.le_refl _
  show wkGo l X 2 0 0 0 S [some (.ref l0A), some (.int l1I)] []
  unfold rX9_at at h
  refine wk_iload_n C dX9_at_0 rfl rfl ?_
  refine wk_if_lt C (tgt := 21) dX9_at_1 (by decide) (fun c1 => ?_) (fun c1 => ?_)
  · rw [if_pos c1] at h
    refine wk_iconst C (v := 0) dX9_at_21 (by decide) ?_
    exact E _ _ _ _ _ _ (Nat.le_refl 0) (Nat.le_refl 0) dX9_at_22 ⟨(0 : Int32), rfl, h, hW, hE⟩
  · rw [if_neg c1] at h
    refine wk_iload_n C dX9_at_4 rfl rfl ?_
    refine wk_aload_n C dX9_at_5 rfl rfl ?_
    refine wk_get C (v := .int (gRow_count S l0A)) huX9_at_9 hl0A.1 (fun cy => wAt_9 cy _ hl0A.2) rfl 1 (by decide) (List.mem_of_getElem? (i := 1) rfl) rfl rfl dX9_at_6 ?_
    refine wk_icmp_ge C (tgt := 21) dX9_at_9 (by decide) (fun c2 => ?_) (fun c2 => ?_)
    · rw [if_pos c2] at h
      refine wk_iconst C (v := 0) dX9_at_21 (by decide) ?_
      exact E _ _ _ _ _ _ (Nat.le_refl 0) (Nat.le_refl 0) dX9_at_22 ⟨(0 : Int32), rfl, h, hW, hE⟩
    · rw [if_neg c2] at h
      refine wk_aload_n C dX9_at_12 rfl rfl ?_
      refine wk_get C huX9_at_9 hl0A.1 (fun cy => wAt_9 cy _ hl0A.2) rfl 0 (by decide) (List.mem_of_getElem? (i := 2) rfl) rfl (congrArg some (congrArg va_rf (wf_Row_numbers hW hl0A).1)) dX9_at_13 ?_
      refine wk_iload_n C dX9_at_16 rfl rfl ?_
      obtain ⟨i3, h⟩ := h
      refine wk_iald C (wf_Row_numbers hW hl0A).2.1 (wf_Row_numbers hW hl0A).2.2 i3 rfl dX9_at_17 ?_
      refine wk_goto C (tgt := 22) dX9_at_18 (by decide) ?_
      exact E _ _ _ _ _ _ (Nat.le_refl 0) (Nat.le_refl 0) dX9_at_22 ⟨(S.rI (wkAd (gRow_numbers S l0A)) (l1I).toNatClampNeg), rfl, h, hW, hE⟩
def wvX9_set : List Cond := .code yX9_set cX9_set 3 none :: (([.fieldLink RX9 13 "Witnessworks$Row" "count" "I", .fieldLink RX9 7 "Witnessworks$Row" "numbers" "[I"] : List Cond) ++ ((wsX90) ++ ([])))
theorem huX9_set_9 : ∀ w ∈ u_ws RX9 TX9 2, w ∈ wvX9_set := fun w h => List.mem_cons_of_mem _ (List.mem_append_right _ (List.mem_append_left _ h))
theorem gdX9_set : ∀ w ∈ wvX9_set, wkGd w := wkGdC rfl (wkGdA (wkGdL (by decide +kernel)) (wkGdA gdX9 (fun _ h => absurd h List.not_mem_nil)))
def rX9_set (F : Nat) (l0A : Nat) (l1I : Int32) (l2I : Int32) (S : wPS) (Φ : (Unit → wPS → Prop)) : Prop :=
  if l1I < 0 then (Φ () S) else (if (gRow_count S l0A) ≤ l1I then (Φ () S) else (¬ (l1I < 0 ∨ S.len (wkAd (gRow_numbers S l0A)) ≤ (l1I).toNatClampNeg) ∧ wkLt (wuI S (wkAd (gRow_numbers S l0A)) l1I l2I) fun S4 => Φ () S4))
set_option maxHeartbeats 4000000 in
set_option maxRecDepth 100000 in
theorem tX9_set {l : Launch} {g : wkG} {F : Nat}  {S : wPS} {l0A : Nat} {l1I : Int32} {l2I : Int32} {Φ : (Unit → wPS → Prop)} (hW : wkWF S) (hl0A : wkIs S l0A 9) (h : rX9_set F l0A l1I l2I S Φ) : wkMet l g yX9_set wvX9_set 0 0 0 [.ref l0A, .int l1I, .int l2I] S (fun v' S'' => ∃ v : Unit, v' = none ∧ Φ v S'' ∧ wkWF S'' ∧ wkExt S S'') := by
  refine wkMet_of (ret := none) (by decide) rfl (Nat.le_of_ble_eq_true rfl) (fun X hg C hR E => ?_)
  subst hg
  have hE : wkExt S S := wkExt.rf
  have hd : 0 ≤ 0 := Nat.le_refl _
  show wkGo l X 3 0 0 0 S [some (.ref l0A), some (.int l1I), some (.int l2I)] []
  unfold rX9_set at h
  refine wk_iload_n C dX9_set_0 rfl rfl ?_
  refine wk_if_lt C (tgt := 19) dX9_set_1 (by decide) (fun c1 => ?_) (fun c1 => ?_)
  · rw [if_pos c1] at h
    exact E _ _ _ _ _ (Nat.le_refl 0) (Nat.le_refl 0) dX9_set_19 ⟨(), rfl, h, hW, hE⟩
  · rw [if_neg c1] at h
    refine wk_iload_n C dX9_set_4 rfl rfl ?_
    refine wk_aload_n C dX9_set_5 rfl rfl ?_
    refine wk_get C (v := .int (gRow_count S l0A)) huX9_set_9 hl0A.1 (fun cy => wAt_9 cy _ hl0A.2) rfl 1 (by decide) (List.mem_of_getElem? (i := 1) rfl) rfl rfl dX9_set_6 ?_
    refine wk_icmp_ge C (tgt := 19) dX9_set_9 (by decide) (fun c2 => ?_) (fun c2 => ?_)
    · rw [if_pos c2] at h
      exact E _ _ _ _ _ (Nat.le_refl 0) (Nat.le_refl 0) dX9_set_19 ⟨(), rfl, h, hW, hE⟩
    · rw [if_neg c2] at h
      refine wk_aload_n C dX9_set_12 rfl rfl ?_
      refine wk_get C huX9_set_9 hl0A.1 (fun cy => wAt_9 cy _ hl0A.2) rfl 0 (by decide) (List.mem_of_getElem? (i := 2) rfl) rfl (congrArg some (congrArg va_rf (wf_Row_numbers hW hl0A).1)) dX9_set_13 ?_
      refine wk_iload_n C dX9_set_16 rfl rfl ?_
      refine wk_iload_n C dX9_set_17 rfl rfl ?_
      obtain ⟨i3, h⟩ := h
      obtain ⟨S4, eS4, h⟩ := wkLt_some h
      refine wk_iast C (wf_Row_numbers hW hl0A).2.1 (wf_Row_numbers hW hl0A).2.2 i3 eS4.symm dX9_set_18 ?_
      have hWS4 : wkWF S4 := by rw [eS4]; exact hW
      have hXS4 : wkExt S S4 := by rw [eS4]; exact wkExt.rf
      exact E _ _ _ _ _ (Nat.le_refl 0) (Nat.le_refl 0) dX9_set_19 ⟨(), rfl, h, hWS4, (wkExt.tr hE hXS4)⟩
def wvX9_copy : List Cond := .code yX9_copy cX9_copy 2 none :: (([.fieldLink RX9 7 "Witnessworks$Row" "numbers" "[I", .fieldLink RX9 13 "Witnessworks$Row" "count" "I", .methodLink RX9 27 arraycopyName, .native arraycopyName, .static arraycopyName, .initialized "java/lang/System", .arrayClass .int] : List Cond) ++ ((wsX90) ++ ([])))
theorem huX9_copy_9 : ∀ w ∈ u_ws RX9 TX9 2, w ∈ wvX9_copy := fun w h => List.mem_cons_of_mem _ (List.mem_append_right _ (List.mem_append_left _ h))
theorem gdX9_copy : ∀ w ∈ wvX9_copy, wkGd w := wkGdC rfl (wkGdA (wkGdL (by decide +kernel)) (wkGdA gdX9 (fun _ h => absurd h List.not_mem_nil)))
def rX9_copy (F : Nat) (k n : Nat) (l0A : Nat) (l1A : Nat) (S : wPS) (Φ : (Unit → wPS → Prop)) : Prop :=
  if (gRow_count S l1A) ≤ (Int32.ofNat (S.len (wkAd (gRow_numbers S l0A)))) then (¬ (0 : Int32) < 0 ∧ ¬ (0 : Int32) < 0 ∧ ¬ (gRow_count S l1A) < 0 ∧ ((0 : Int32)).toNatClampNeg + ((gRow_count S l1A)).toNatClampNeg ≤ S.len (wkAd (gRow_numbers S l1A)) ∧ ((0 : Int32)).toNatClampNeg + ((gRow_count S l1A)).toNatClampNeg ≤ S.len (wkAd (gRow_numbers S l0A)) ∧ wkLt (wuRI S (wkAd (gRow_numbers S l0A)) (va_cpy (S.rI (wkAd (gRow_numbers S l1A))) (S.rI (wkAd (gRow_numbers S l0A))) ((0 : Int32)).toNatClampNeg ((0 : Int32)).toNatClampNeg ((gRow_count S l1A)).toNatClampNeg)) fun S3 => wkLt (wu_Row_count S3 l0A (gRow_count S3 l1A)) fun S4 => Φ () S4) else (¬ (Int32.ofNat (S.len (wkAd (gRow_numbers S l1A)))) < 0 ∧ 0 + 1 ≤ k ∧ 0 + ((Int32.ofNat (S.len (wkAd (gRow_numbers S l1A))))).toNatClampNeg ≤ n ∧ ((Int32.ofNat (S.len (wkAd (gRow_numbers S l1A))))).toNatClampNeg * 4 ≤ 536870912 ∧ ∀ q6 : Nat, ¬ q6 ∈ S.L → wkLt (wnI S q6 13 ((Int32.ofNat (S.len (wkAd (gRow_numbers S l1A))))).toNatClampNeg (fun _ => 0)) fun S7 => wkLt (wu_Row_numbers S7 l0A (some q6)) fun S8 => ¬ (0 : Int32) < 0 ∧ ¬ (0 : Int32) < 0 ∧ ¬ (gRow_count S8 l1A) < 0 ∧ ((0 : Int32)).toNatClampNeg + ((gRow_count S8 l1A)).toNatClampNeg ≤ S8.len (wkAd (gRow_numbers S8 l1A)) ∧ ((0 : Int32)).toNatClampNeg + ((gRow_count S8 l1A)).toNatClampNeg ≤ S8.len (wkAd (gRow_numbers S8 l0A)) ∧ wkLt (wuRI S8 (wkAd (gRow_numbers S8 l0A)) (va_cpy (S8.rI (wkAd (gRow_numbers S8 l1A))) (S8.rI (wkAd (gRow_numbers S8 l0A))) ((0 : Int32)).toNatClampNeg ((0 : Int32)).toNatClampNeg ((gRow_count S8 l1A)).toNatClampNeg)) fun S10 => wkLt (wu_Row_count S10 l0A (gRow_count S10 l1A)) fun S11 => Φ () S11)
set_option maxHeartbeats 4000000 in
set_option maxRecDepth 100000 in
theorem tX9_copy {l : Launch} {g : wkG} {F : Nat} {k n : Nat}  {S : wPS} {l0A : Nat} {l1A : Nat} {Φ : (Unit → wPS → Prop)} (hW : wkWF S) (hl0A : wkIs S l0A 9) (hl1A : wkIs S l1A 9) (h : rX9_copy F k n l0A l1A S Φ) : wkMet l g yX9_copy wvX9_copy 1 k n [.ref l0A, .ref l1A] S (fun v' S'' => ∃ v : Unit, v' = none ∧ Φ v S'' ∧ wkWF S'' ∧ wkExt S S'') := by
  refine wkMet_of (ret := none) (by decide) rfl (Nat.le_of_ble_eq_true rfl) (fun X hg C hR E => ?_)
  subst hg
  have hE : wkExt S S := wkExt.rf
  have hd : 1 ≤ 1 := Nat.le_refl _
  show wkGo l X 2 0 0 0 S [some (.ref l0A), some (.ref l1A)] []
  unfold rX9_copy at h
  refine wk_aload_n C dX9_copy_0 rfl rfl ?_
  refine wk_get C huX9_copy_9 hl0A.1 (fun cy => wAt_9 cy _ hl0A.2) rfl 0 (by decide) (List.mem_of_getElem? (i := 1) rfl) rfl (congrArg some (congrArg va_rf (wf_Row_numbers hW hl0A).1)) dX9_copy_1 ?_
  refine wk_ilen C (wf_Row_numbers hW hl0A).2.1 (wf_Row_numbers hW hl0A).2.2 rfl dX9_copy_4 ?_
  refine wk_aload_n C dX9_copy_5 rfl rfl ?_
  refine wk_get C (v := .int (gRow_count S l1A)) huX9_copy_9 hl1A.1 (fun cy => wAt_9 cy _ hl1A.2) rfl 1 (by decide) (List.mem_of_getElem? (i := 2) rfl) rfl rfl dX9_copy_6 ?_
  refine wk_icmp_ge C (tgt := 23) dX9_copy_9 (by decide) (fun c1 => ?_) (fun c1 => ?_)
  · rw [if_pos c1] at h
    refine wk_aload_n C dX9_copy_23 rfl rfl ?_
    refine wk_get C huX9_copy_9 hl1A.1 (fun cy => wAt_9 cy _ hl1A.2) rfl 0 (by decide) (List.mem_of_getElem? (i := 1) rfl) rfl (congrArg some (congrArg va_rf (wf_Row_numbers hW hl1A).1)) dX9_copy_24 ?_
    refine wk_iconst C (v := 0) dX9_copy_27 (by decide) ?_
    refine wk_aload_n C dX9_copy_28 rfl rfl ?_
    refine wk_get C huX9_copy_9 hl0A.1 (fun cy => wAt_9 cy _ hl0A.2) rfl 0 (by decide) (List.mem_of_getElem? (i := 1) rfl) rfl (congrArg some (congrArg va_rf (wf_Row_numbers hW hl0A).1)) dX9_copy_29 ?_
    refine wk_iconst C (v := 0) dX9_copy_32 (by decide) ?_
    refine wk_aload_n C dX9_copy_33 rfl rfl ?_
    refine wk_get C (v := .int (gRow_count S l1A)) huX9_copy_9 hl1A.1 (fun cy => wAt_9 cy _ hl1A.2) rfl 1 (by decide) (List.mem_of_getElem? (i := 2) rfl) rfl rfl dX9_copy_34 ?_
    obtain ⟨y2a, y2b, y2c, y2d, y2e, h⟩ := h
    obtain ⟨S3, eS3, h⟩ := wkLt_some h
    refine wk_copyI C hR (List.mem_of_getElem? (i := 3) rfl) (List.mem_of_getElem? (i := 4) rfl) (List.mem_of_getElem? (i := 5) rfl) (List.mem_of_getElem? (i := 6) rfl) (Nat.le_trans (by decide) hd) (wf_Row_numbers hW hl1A).2.1 (wf_Row_numbers hW hl1A).2.2 (wf_Row_numbers hW hl0A).2.1 (wf_Row_numbers hW hl0A).2.2 y2a y2b y2c y2d y2e (Nat.le_of_ble_eq_true rfl) eS3.symm dX9_copy_37 ?_
    have hWS3 : wkWF S3 := by rw [eS3]; exact hW
    have hXS3 : wkExt S S3 := by rw [eS3]; exact wkExt.rf
    refine wk_aload_n C dX9_copy_40 rfl rfl ?_
    refine wk_aload_n C dX9_copy_41 rfl rfl ?_
    refine wk_get C (v := .int (gRow_count S3 l1A)) huX9_copy_9 (hXS3 _ _ hl1A).1 (fun cy => wAt_9 cy _ (hXS3 _ _ hl1A).2) rfl 1 (by decide) (List.mem_of_getElem? (i := 2) rfl) rfl rfl dX9_copy_42 ?_
    obtain ⟨S4, eS4, h⟩ := wkLt_some h
    refine wk_put C (S' := S4) huX9_copy_9 (hXS3 _ _ hl0A).1 (fun cy => wAt_9 cy _ (hXS3 _ _ hl0A).2) rfl 1 (by decide) (List.mem_of_getElem? (i := 2) rfl) rfl tyX9_ok nmX9 rfl (ty := .int) rfl rfl rfl (by show 1 < 2; decide) (fun cy b => by rw [eS4]; exact wSt_9_1 cy _ (hXS3 _ _ hl0A).2 _ b) (by rw [eS4]) dX9_copy_45 ?_
    have hWS4 : wkWF S4 := by rw [eS4]; exact hWS3
    have hXS4 : wkExt S3 S4 := by rw [eS4]; exact wkExt.rf
    exact E _ _ _ _ _ (Nat.zero_le _) (Nat.zero_le _) dX9_copy_48 ⟨(), rfl, h, hWS4, (wkExt.tr (wkExt.tr hE hXS3) hXS4)⟩
  · rw [if_neg c1] at h
    refine wk_aload_n C dX9_copy_12 rfl rfl ?_
    refine wk_aload_n C dX9_copy_13 rfl rfl ?_
    refine wk_get C huX9_copy_9 hl1A.1 (fun cy => wAt_9 cy _ hl1A.2) rfl 0 (by decide) (List.mem_of_getElem? (i := 1) rfl) rfl (congrArg some (congrArg va_rf (wf_Row_numbers hW hl1A).1)) dX9_copy_14 ?_
    refine wk_ilen C (wf_Row_numbers hW hl1A).2.1 (wf_Row_numbers hW hl1A).2.2 rfl dX9_copy_17 ?_
    obtain ⟨h5a, h5b, h5c, h5d, h⟩ := h
    refine wk_newI C hR (List.mem_of_getElem? (i := 7) rfl) h5a h5b h5c h5d dX9_copy_18 (fun q6 h5e => ?_)
    obtain ⟨S7, eS7, h⟩ := wkLt_some (h q6 h5e)
    rw [← eS7]
    obtain ⟨hWS7, hXS7, hIS7⟩ := wkWF_newI eS7 hW h5e
    obtain ⟨S8, eS8, h⟩ := wkLt_some h
    refine wk_put C (S' := S8) huX9_copy_9 (hXS7 _ _ hl0A).1 (fun cy => wAt_9 cy _ (hXS7 _ _ hl0A).2) rfl 0 (by decide) (List.mem_of_getElem? (i := 1) rfl) rfl tyX9_ok nmX9 rfl (ty := (.array .int)) rfl rfl rfl (by show 0 < 2; decide) (fun cy b => by rw [eS8]; exact wSt_9_0 cy _ (hXS7 _ _ hl0A).2 (some q6) b) (by rw [eS8]) dX9_copy_20 ?_
    have hWS8 : wkWF S8 := by rw [eS8]; exact (wkWF_Row_numbers hWS7 (hXS7 _ _ hl0A) hIS7)
    have hXS8 : wkExt S7 S8 := by rw [eS8]; exact wkExt.rf
    refine wk_aload_n C dX9_copy_23 rfl rfl ?_
    refine wk_get C huX9_copy_9 (hXS8 _ _ (hXS7 _ _ hl1A)).1 (fun cy => wAt_9 cy _ (hXS8 _ _ (hXS7 _ _ hl1A)).2) rfl 0 (by decide) (List.mem_of_getElem? (i := 1) rfl) rfl (congrArg some (congrArg va_rf (wf_Row_numbers hWS8 (hXS8 _ _ (hXS7 _ _ hl1A))).1)) dX9_copy_24 ?_
    refine wk_iconst C (v := 0) dX9_copy_27 (by decide) ?_
    refine wk_aload_n C dX9_copy_28 rfl rfl ?_
    refine wk_get C huX9_copy_9 (hXS8 _ _ (hXS7 _ _ hl0A)).1 (fun cy => wAt_9 cy _ (hXS8 _ _ (hXS7 _ _ hl0A)).2) rfl 0 (by decide) (List.mem_of_getElem? (i := 1) rfl) rfl (congrArg some (congrArg va_rf (wf_Row_numbers hWS8 (hXS8 _ _ (hXS7 _ _ hl0A))).1)) dX9_copy_29 ?_
    refine wk_iconst C (v := 0) dX9_copy_32 (by decide) ?_
    refine wk_aload_n C dX9_copy_33 rfl rfl ?_
    refine wk_get C (v := .int (gRow_count S8 l1A)) huX9_copy_9 (hXS8 _ _ (hXS7 _ _ hl1A)).1 (fun cy => wAt_9 cy _ (hXS8 _ _ (hXS7 _ _ hl1A)).2) rfl 1 (by decide) (List.mem_of_getElem? (i := 2) rfl) rfl rfl dX9_copy_34 ?_
    obtain ⟨y9a, y9b, y9c, y9d, y9e, h⟩ := h
    obtain ⟨S10, eS10, h⟩ := wkLt_some h
    refine wk_copyI C hR (List.mem_of_getElem? (i := 3) rfl) (List.mem_of_getElem? (i := 4) rfl) (List.mem_of_getElem? (i := 5) rfl) (List.mem_of_getElem? (i := 6) rfl) (Nat.le_trans (by decide) hd) (wf_Row_numbers hWS8 (hXS8 _ _ (hXS7 _ _ hl1A))).2.1 (wf_Row_numbers hWS8 (hXS8 _ _ (hXS7 _ _ hl1A))).2.2 (wf_Row_numbers hWS8 (hXS8 _ _ (hXS7 _ _ hl0A))).2.1 (wf_Row_numbers hWS8 (hXS8 _ _ (hXS7 _ _ hl0A))).2.2 y9a y9b y9c y9d y9e (Nat.le_of_ble_eq_true rfl) eS10.symm dX9_copy_37 ?_
    have hWS10 : wkWF S10 := by rw [eS10]; exact hWS8
    have hXS10 : wkExt S8 S10 := by rw [eS10]; exact wkExt.rf
    refine wk_aload_n C dX9_copy_40 rfl rfl ?_
    refine wk_aload_n C dX9_copy_41 rfl rfl ?_
    refine wk_get C (v := .int (gRow_count S10 l1A)) huX9_copy_9 (hXS10 _ _ (hXS8 _ _ (hXS7 _ _ hl1A))).1 (fun cy => wAt_9 cy _ (hXS10 _ _ (hXS8 _ _ (hXS7 _ _ hl1A))).2) rfl 1 (by decide) (List.mem_of_getElem? (i := 2) rfl) rfl rfl dX9_copy_42 ?_
    obtain ⟨S11, eS11, h⟩ := wkLt_some h
    refine wk_put C (S' := S11) huX9_copy_9 (hXS10 _ _ (hXS8 _ _ (hXS7 _ _ hl0A))).1 (fun cy => wAt_9 cy _ (hXS10 _ _ (hXS8 _ _ (hXS7 _ _ hl0A))).2) rfl 1 (by decide) (List.mem_of_getElem? (i := 2) rfl) rfl tyX9_ok nmX9 rfl (ty := .int) rfl rfl rfl (by show 1 < 2; decide) (fun cy b => by rw [eS11]; exact wSt_9_1 cy _ (hXS10 _ _ (hXS8 _ _ (hXS7 _ _ hl0A))).2 _ b) (by rw [eS11]) dX9_copy_45 ?_
    have hWS11 : wkWF S11 := by rw [eS11]; exact hWS10
    have hXS11 : wkExt S10 S11 := by rw [eS11]; exact wkExt.rf
    exact E _ _ _ _ _ h5b h5c dX9_copy_48 ⟨(), rfl, h, hWS11, (wkExt.tr (wkExt.tr (wkExt.tr (wkExt.tr hE hXS7) hXS8) hXS10) hXS11)⟩
def wvX9_firstUnlike : List Cond := .code yX9_firstUnlike cX9_firstUnlike 4 (some .int) :: (([.fieldLink RX9 7 "Witnessworks$Row" "numbers" "[I", .fieldLink RX9 13 "Witnessworks$Row" "count" "I", .methodLink RX9 37 Lib.Math.min.name, .static Lib.Math.min.name, .initialized "java/lang/Math", .code Lib.Math.min.name Lib.Math.min.code 2 (some .int)] : List Cond) ++ ((wsX90) ++ ([])))
theorem huX9_firstUnlike_9 : ∀ w ∈ u_ws RX9 TX9 2, w ∈ wvX9_firstUnlike := fun w h => List.mem_cons_of_mem _ (List.mem_append_right _ (List.mem_append_left _ h))
theorem gdX9_firstUnlike : ∀ w ∈ wvX9_firstUnlike, wkGd w := wkGdC rfl (wkGdA (wkGdL (by decide +kernel)) (wkGdA gdX9 (fun _ h => absurd h List.not_mem_nil)))
def rX9_firstUnlike_b0 (F : Nat) (rec : Nat → Nat → Nat → Int32 → Int32 → wPS → (Int32 → wPS → Prop) → Prop) (l0A : Nat) (l1A : Nat) (l2I : Int32) (l3I : Int32) (S : wPS) (Φ : (Int32 → wPS → Prop)) : Prop :=
  if l2I ≤ l3I then (Φ l2I S) else (¬ (l3I < 0 ∨ S.len (wkAd (gRow_numbers S l0A)) ≤ (l3I).toNatClampNeg) ∧ ¬ (l3I < 0 ∨ S.len (wkAd (gRow_numbers S l1A)) ≤ (l3I).toNatClampNeg) ∧ if (S.rI (wkAd (gRow_numbers S l0A)) (l3I).toNatClampNeg) = (S.rI (wkAd (gRow_numbers S l1A)) (l3I).toNatClampNeg) then (wkLt (l3I + (1 : Int32)) fun x5 => rec 0 l0A l1A l2I x5 S Φ) else (Φ l3I S))
def rX9_firstUnlike_go (F : Nat) : Nat → Nat → Nat → Nat → Int32 → Int32 → wPS → (Int32 → wPS → Prop) → Prop
  | 0, _, _, _, _, _, _, _ => False
  | k' + 1, lab, l0A, l1A, l2I, l3I, S, Φ => if lab = 0 then rX9_firstUnlike_b0 F (rX9_firstUnlike_go F k') l0A l1A l2I l3I S Φ else False
def rX9_firstUnlike_s (F : Nat) (rec : Nat → Nat → Nat → Int32 → Int32 → wPS → (Int32 → wPS → Prop) → Prop) (l0A : Nat) (l1A : Nat) (S : wPS) (Φ : (Int32 → wPS → Prop)) : Prop :=
  wkLt ((if (gRow_count S l1A) < (gRow_count S l0A) then (gRow_count S l1A) else (gRow_count S l0A))) fun x6 => rec 0 l0A l1A x6 (0 : Int32) S Φ
def rX9_firstUnlike (F : Nat) (l0A : Nat) (l1A : Nat) (S : wPS) (Φ : (Int32 → wPS → Prop)) : Prop := rX9_firstUnlike_s F (rX9_firstUnlike_go F F) l0A l1A S Φ
set_option maxHeartbeats 4000000 in
set_option maxRecDepth 100000 in
theorem tX9_firstUnlike_go {l : Launch} {X : wkX} {d F : Nat} {S0 : wPS} {Φ : (Int32 → wPS → Prop)} (C : wkC X cX9_firstUnlike RX9 4 wvX9_firstUnlike) (hR : wkRm X d 0 0) (hd : 1 ≤ d) (E : wkEnd l X cX9_firstUnlike 4 (some .int) 0 0 (fun v' S'' => ∃ v : Int32, v' = some (.int v) ∧ Φ v S'' ∧ wkWF S'' ∧ wkExt S0 S'')) : ∀ k' : Nat, (∀ (l0A : Nat) (l1A : Nat) (l2I : Int32) (l3I : Int32) (S : wPS), wkWF S → wkExt S0 S → wkIs S l0A 9 → wkIs S l1A 9 → rX9_firstUnlike_go F k' 0 l0A l1A l2I l3I S Φ → wkGo l X 4 0 0 14 S [some (.ref l0A), some (.ref l1A), some (.int l2I), some (.int l3I)] []) := by
  intro k'
  induction k' with
  | zero => exact fun l0A l1A l2I l3I S hW hE hl0A hl1A h => h.elim
  | succ k' ih =>
    · intro l0A l1A l2I l3I S hW hE hl0A hl1A h
      have h : rX9_firstUnlike_b0 F (rX9_firstUnlike_go F k') l0A l1A l2I l3I S Φ := by
        rw [rX9_firstUnlike_go, if_pos (rfl : (0 : Nat) = 0)] at h
        exact h
      unfold rX9_firstUnlike_b0 at h
      refine wk_iload_n C dX9_firstUnlike_14 rfl rfl ?_
      refine wk_iload_n C dX9_firstUnlike_15 rfl rfl ?_
      refine wk_icmp_ge C (tgt := 42) dX9_firstUnlike_16 (by decide) (fun c1 => ?_) (fun c1 => ?_)
      · rw [if_pos c1] at h
        refine wk_iload_n C dX9_firstUnlike_42 rfl rfl ?_
        exact E _ _ _ _ _ _ (Nat.le_refl 0) (Nat.le_refl 0) dX9_firstUnlike_43 ⟨l2I, rfl, h, hW, hE⟩
      · rw [if_neg c1] at h
        refine wk_aload_n C dX9_firstUnlike_19 rfl rfl ?_
        refine wk_get C huX9_firstUnlike_9 hl0A.1 (fun cy => wAt_9 cy _ hl0A.2) rfl 0 (by decide) (List.mem_of_getElem? (i := 1) rfl) rfl (congrArg some (congrArg va_rf (wf_Row_numbers hW hl0A).1)) dX9_firstUnlike_20 ?_
        refine wk_iload_n C dX9_firstUnlike_23 rfl rfl ?_
        obtain ⟨i2, h⟩ := h
        refine wk_iald C (wf_Row_numbers hW hl0A).2.1 (wf_Row_numbers hW hl0A).2.2 i2 rfl dX9_firstUnlike_24 ?_
        refine wk_aload_n C dX9_firstUnlike_25 rfl rfl ?_
        refine wk_get C huX9_firstUnlike_9 hl1A.1 (fun cy => wAt_9 cy _ hl1A.2) rfl 0 (by decide) (List.mem_of_getElem? (i := 1) rfl) rfl (congrArg some (congrArg va_rf (wf_Row_numbers hW hl1A).1)) dX9_firstUnlike_26 ?_
        refine wk_iload_n C dX9_firstUnlike_29 rfl rfl ?_
        obtain ⟨i3, h⟩ := h
        refine wk_iald C (wf_Row_numbers hW hl1A).2.1 (wf_Row_numbers hW hl1A).2.2 i3 rfl dX9_firstUnlike_30 ?_
        refine wk_icmp_eq C (tgt := 36) dX9_firstUnlike_31 (by decide) (fun c4 => ?_) (fun c4 => ?_)
        · rw [if_pos c4] at h
          obtain ⟨x5, ex5, h⟩ := wkLt_some h
          refine wk_iinc C (lv' := [some (.ref l0A), some (.ref l1A), some (.int l2I), some (.int x5)]) dX9_firstUnlike_36 rfl (by rw [ex5]; rfl) (by decide) rfl ?_
          refine wk_goto C (tgt := 14) dX9_firstUnlike_39 (by decide) ?_
          exact wk_forget (lv' := [some (.ref l0A), some (.ref l1A), some (.int l2I), some (.int x5)]) (wkLs.le ⟨rfl, rfl, rfl, rfl, trivial⟩) (ih _ _ _ _ _ hW hE hl0A hl1A h)
        · rw [if_neg c4] at h
          refine wk_iload_n C dX9_firstUnlike_34 rfl rfl ?_
          exact E _ _ _ _ _ _ (Nat.le_refl 0) (Nat.le_refl 0) dX9_firstUnlike_35 ⟨l3I, rfl, h, hW, hE⟩
set_option maxHeartbeats 4000000 in
set_option maxRecDepth 100000 in
theorem tX9_firstUnlike {l : Launch} {g : wkG} {F : Nat}  {S : wPS} {l0A : Nat} {l1A : Nat} {Φ : (Int32 → wPS → Prop)} (hW : wkWF S) (hl0A : wkIs S l0A 9) (hl1A : wkIs S l1A 9) (h : rX9_firstUnlike F l0A l1A S Φ) : wkMet l g yX9_firstUnlike wvX9_firstUnlike 1 0 0 [.ref l0A, .ref l1A] S (fun v' S'' => ∃ v : Int32, v' = some (.int v) ∧ Φ v S'' ∧ wkWF S'' ∧ wkExt S S'') := by
  refine wkMet_of (ret := (some .int)) (by decide) rfl (Nat.le_of_ble_eq_true rfl) (fun X hg C hR E => ?_)
  subst hg
  have hE : wkExt S S := wkExt.rf
  have hd : 1 ≤ 1 := Nat.le_refl _
  show wkGo l X 4 0 0 0 S [some (.ref l0A), some (.ref l1A), none, none] []
  have ih := tX9_firstUnlike_go (F := F) C hR hd E F
  have h : rX9_firstUnlike_s F (rX9_firstUnlike_go F F) l0A l1A S Φ := h
  unfold rX9_firstUnlike_s at h
  refine wk_aload_n C dX9_firstUnlike_0 rfl rfl ?_
  refine wk_get C (v := .int (gRow_count S l0A)) huX9_firstUnlike_9 hl0A.1 (fun cy => wAt_9 cy _ hl0A.2) rfl 1 (by decide) (List.mem_of_getElem? (i := 2) rfl) rfl rfl dX9_firstUnlike_1 ?_
  refine wk_aload_n C dX9_firstUnlike_4 rfl rfl ?_
  refine wk_get C (v := .int (gRow_count S l1A)) huX9_firstUnlike_9 hl1A.1 (fun cy => wAt_9 cy _ hl1A.2) rfl 1 (by decide) (List.mem_of_getElem? (i := 2) rfl) rfl rfl dX9_firstUnlike_5 ?_
  refine wk_mmin C hR (List.mem_of_getElem? (i := 3) rfl) (List.mem_of_getElem? (i := 4) rfl) (List.mem_of_getElem? (i := 5) rfl) (List.mem_of_getElem? (i := 6) rfl) (Nat.le_trans (by decide) hd) (Nat.le_refl 0) (Nat.le_refl 0) (Nat.le_of_ble_eq_true rfl) rfl dX9_firstUnlike_8 ?_
  obtain ⟨x6, ex6, h⟩ := wkLt_some h
  refine wk_topi ex6 ?_
  refine wk_istore_n C (lv' := [some (.ref l0A), some (.ref l1A), some (.int x6), none]) dX9_firstUnlike_11 rfl (by decide) rfl ?_
  refine wk_iconst C (v := 0) dX9_firstUnlike_12 (by decide) ?_
  refine wk_istore_n C (lv' := [some (.ref l0A), some (.ref l1A), some (.int x6), some (.int (0 : Int32))]) dX9_firstUnlike_13 rfl (by decide) rfl ?_
  exact wk_forget (lv' := [some (.ref l0A), some (.ref l1A), some (.int x6), some (.int (0 : Int32))]) (wkLs.le ⟨rfl, rfl, rfl, rfl, trivial⟩) (ih _ _ _ _ _ hW hE hl0A hl1A h)
