def wvX4_init : List Cond := .code yX4_init cX4_init 1 none :: (([.methodLink RX4 3 objectInit, .instanceMethod objectInit, .code objectInit ⟨#[0xb1]⟩ 1 none, .classLink RX4 9 RX7, .instantiable RX7 11, .initialized RX7, .instanceMethod yX7_init, .fieldLink RX4 12 "Witnessworks$House" "networks" "LWitnessworks$Networks;", .classLink RX4 18 RX2, .instantiable RX2 10, .initialized RX2, .instanceMethod yX2_init, .fieldLink RX4 21 "Witnessworks$House" "drawings" "LWitnessworks$Drawings;", .classLink RX4 25 RX5, .instantiable RX5 7, .initialized RX5, .instanceMethod yX5_init, .fieldLink RX4 28 "Witnessworks$House" "inequalities" "LWitnessworks$Inequalities;", .classLink RX4 32 RX1, .instantiable RX1 7, .initialized RX1, .instanceMethod yX1_init, .fieldLink RX4 35 "Witnessworks$House" "clauses" "LWitnessworks$Clauses;", .classLink RX4 39 RX8, .instantiable RX8 9, .initialized RX8, .instanceMethod yX8_init, .fieldLink RX4 42 "Witnessworks$House" "numbers" "LWitnessworks$Numbers;", .classLink RX4 46 RX10, .instantiable RX10 12, .initialized RX10, .instanceMethod yX10_init, .fieldLink RX4 49 "Witnessworks$House" "words" "LWitnessworks$Words;", .classLink RX4 53 RX6, .instantiable RX6 8, .initialized RX6, .instanceMethod yX6_init, .fieldLink RX4 56 "Witnessworks$House" "machines" "LWitnessworks$Machines;", .arrayClass .int, .fieldLink RX4 60 "Witnessworks$House" "near" "[I"] : List Cond) ++ ((wsX70 ++ (wsX40 ++ (wsX20 ++ (wsX50 ++ (wsX10 ++ (wsX80 ++ (wsX100 ++ (wsX60)))))))) ++ (wvX7_init ++ (wvX2_init ++ (wvX5_init ++ (wvX1_init ++ (wvX8_init ++ (wvX10_init ++ (wvX6_init)))))))))
theorem huX4_init_7 : ∀ w ∈ u_ws RX7 TX7 11, w ∈ wvX4_init := fun w h => List.mem_cons_of_mem _ (List.mem_append_right _ (List.mem_append_left _ (List.mem_append_left _ h)))
theorem huX4_init_4 : ∀ w ∈ u_ws RX4 TX4 8, w ∈ wvX4_init := fun w h => List.mem_cons_of_mem _ (List.mem_append_right _ (List.mem_append_left _ (List.mem_append_right _ (List.mem_append_left _ h))))
theorem huX4_init_2 : ∀ w ∈ u_ws RX2 TX2 10, w ∈ wvX4_init := fun w h => List.mem_cons_of_mem _ (List.mem_append_right _ (List.mem_append_left _ (List.mem_append_right _ (List.mem_append_right _ (List.mem_append_left _ h)))))
theorem huX4_init_5 : ∀ w ∈ u_ws RX5 TX5 7, w ∈ wvX4_init := fun w h => List.mem_cons_of_mem _ (List.mem_append_right _ (List.mem_append_left _ (List.mem_append_right _ (List.mem_append_right _ (List.mem_append_right _ (List.mem_append_left _ h))))))
theorem huX4_init_1 : ∀ w ∈ u_ws RX1 TX1 7, w ∈ wvX4_init := fun w h => List.mem_cons_of_mem _ (List.mem_append_right _ (List.mem_append_left _ (List.mem_append_right _ (List.mem_append_right _ (List.mem_append_right _ (List.mem_append_right _ (List.mem_append_left _ h)))))))
theorem huX4_init_8 : ∀ w ∈ u_ws RX8 TX8 9, w ∈ wvX4_init := fun w h => List.mem_cons_of_mem _ (List.mem_append_right _ (List.mem_append_left _ (List.mem_append_right _ (List.mem_append_right _ (List.mem_append_right _ (List.mem_append_right _ (List.mem_append_right _ (List.mem_append_left _ h))))))))
theorem huX4_init_10 : ∀ w ∈ u_ws RX10 TX10 12, w ∈ wvX4_init := fun w h => List.mem_cons_of_mem _ (List.mem_append_right _ (List.mem_append_left _ (List.mem_append_right _ (List.mem_append_right _ (List.mem_append_right _ (List.mem_append_right _ (List.mem_append_right _ (List.mem_append_right _ (List.mem_append_left _ h)))))))))
theorem huX4_init_6 : ∀ w ∈ u_ws RX6 TX6 8, w ∈ wvX4_init := fun w h => List.mem_cons_of_mem _ (List.mem_append_right _ (List.mem_append_left _ (List.mem_append_right _ (List.mem_append_right _ (List.mem_append_right _ (List.mem_append_right _ (List.mem_append_right _ (List.mem_append_right _ (List.mem_append_right _ h)))))))))
theorem hbX4_init_X7_init : ∀ w ∈ wvX7_init, w ∈ wvX4_init := fun w h => List.mem_cons_of_mem _ (List.mem_append_right _ (List.mem_append_right _ (List.mem_append_left _ h)))
theorem hbX4_init_X2_init : ∀ w ∈ wvX2_init, w ∈ wvX4_init := fun w h => List.mem_cons_of_mem _ (List.mem_append_right _ (List.mem_append_right _ (List.mem_append_right _ (List.mem_append_left _ h))))
theorem hbX4_init_X5_init : ∀ w ∈ wvX5_init, w ∈ wvX4_init := fun w h => List.mem_cons_of_mem _ (List.mem_append_right _ (List.mem_append_right _ (List.mem_append_right _ (List.mem_append_right _ (List.mem_append_left _ h)))))
theorem hbX4_init_X1_init : ∀ w ∈ wvX1_init, w ∈ wvX4_init := fun w h => List.mem_cons_of_mem _ (List.mem_append_right _ (List.mem_append_right _ (List.mem_append_right _ (List.mem_append_right _ (List.mem_append_right _ (List.mem_append_left _ h))))))
theorem hbX4_init_X8_init : ∀ w ∈ wvX8_init, w ∈ wvX4_init := fun w h => List.mem_cons_of_mem _ (List.mem_append_right _ (List.mem_append_right _ (List.mem_append_right _ (List.mem_append_right _ (List.mem_append_right _ (List.mem_append_right _ (List.mem_append_left _ h)))))))
theorem hbX4_init_X10_init : ∀ w ∈ wvX10_init, w ∈ wvX4_init := fun w h => List.mem_cons_of_mem _ (List.mem_append_right _ (List.mem_append_right _ (List.mem_append_right _ (List.mem_append_right _ (List.mem_append_right _ (List.mem_append_right _ (List.mem_append_right _ (List.mem_append_left _ h))))))))
theorem hbX4_init_X6_init : ∀ w ∈ wvX6_init, w ∈ wvX4_init := fun w h => List.mem_cons_of_mem _ (List.mem_append_right _ (List.mem_append_right _ (List.mem_append_right _ (List.mem_append_right _ (List.mem_append_right _ (List.mem_append_right _ (List.mem_append_right _ (List.mem_append_right _ h))))))))
theorem gdX4_init : ∀ w ∈ wvX4_init, wkGd w := wkGdC rfl (wkGdA (wkGdL (by decide +kernel)) (wkGdA (wkGdA gdX7 (wkGdA gdX4 (wkGdA gdX2 (wkGdA gdX5 (wkGdA gdX1 (wkGdA gdX8 (wkGdA gdX10 gdX6))))))) (wkGdA gdX7_init (wkGdA gdX2_init (wkGdA gdX5_init (wkGdA gdX1_init (wkGdA gdX8_init (wkGdA gdX10_init gdX6_init))))))))
def rX4_init (F : Nat) (k n : Nat) (l0A : Nat) (S : wPS) (Φ : (Unit → wPS → Prop)) : Prop :=
  0 + 1 ≤ k ∧ 0 + 11 ≤ n ∧ ∀ q2 : Nat, ¬ q2 ∈ S.L → wkLt (wnO S q2 7) fun S3 => ∃ k6 n7 : Nat, (0 + 1) + k6 ≤ k ∧ (0 + 11) + n7 ≤ n ∧ rX7_init F k6 n7 q2 S3 fun v4 S5 => wkLt (wu_House_networks S5 l0A (some q2)) fun S8 => ((0 + 1) + k6) + 1 ≤ k ∧ ((0 + 11) + n7) + 10 ≤ n ∧ ∀ q10 : Nat, ¬ q10 ∈ S8.L → wkLt (wnO S8 q10 2) fun S11 => ∃ k14 n15 : Nat, (((0 + 1) + k6) + 1) + k14 ≤ k ∧ (((0 + 11) + n7) + 10) + n15 ≤ n ∧ rX2_init F k14 n15 q10 S11 fun v12 S13 => wkLt (wu_House_drawings S13 l0A (some q10)) fun S16 => ((((0 + 1) + k6) + 1) + k14) + 1 ≤ k ∧ ((((0 + 11) + n7) + 10) + n15) + 7 ≤ n ∧ ∀ q18 : Nat, ¬ q18 ∈ S16.L → wkLt (wnO S16 q18 5) fun S19 => ∃ k22 n23 : Nat, (((((0 + 1) + k6) + 1) + k14) + 1) + k22 ≤ k ∧ (((((0 + 11) + n7) + 10) + n15) + 7) + n23 ≤ n ∧ rX5_init F k22 n23 q18 S19 fun v20 S21 => wkLt (wu_House_inequalities S21 l0A (some q18)) fun S24 => ((((((0 + 1) + k6) + 1) + k14) + 1) + k22) + 1 ≤ k ∧ ((((((0 + 11) + n7) + 10) + n15) + 7) + n23) + 7 ≤ n ∧ ∀ q26 : Nat, ¬ q26 ∈ S24.L → wkLt (wnO S24 q26 1) fun S27 => ∃ k30 n31 : Nat, (((((((0 + 1) + k6) + 1) + k14) + 1) + k22) + 1) + k30 ≤ k ∧ (((((((0 + 11) + n7) + 10) + n15) + 7) + n23) + 7) + n31 ≤ n ∧ rX1_init F k30 n31 q26 S27 fun v28 S29 => wkLt (wu_House_clauses S29 l0A (some q26)) fun S32 => ((((((((0 + 1) + k6) + 1) + k14) + 1) + k22) + 1) + k30) + 1 ≤ k ∧ ((((((((0 + 11) + n7) + 10) + n15) + 7) + n23) + 7) + n31) + 9 ≤ n ∧ ∀ q34 : Nat, ¬ q34 ∈ S32.L → wkLt (wnO S32 q34 8) fun S35 => ∃ k38 n39 : Nat, (((((((((0 + 1) + k6) + 1) + k14) + 1) + k22) + 1) + k30) + 1) + k38 ≤ k ∧ (((((((((0 + 11) + n7) + 10) + n15) + 7) + n23) + 7) + n31) + 9) + n39 ≤ n ∧ rX8_init F k38 n39 q34 S35 fun v36 S37 => wkLt (wu_House_numbers S37 l0A (some q34)) fun S40 => ((((((((((0 + 1) + k6) + 1) + k14) + 1) + k22) + 1) + k30) + 1) + k38) + 1 ≤ k ∧ ((((((((((0 + 11) + n7) + 10) + n15) + 7) + n23) + 7) + n31) + 9) + n39) + 12 ≤ n ∧ ∀ q42 : Nat, ¬ q42 ∈ S40.L → wkLt (wnO S40 q42 10) fun S43 => ∃ k46 n47 : Nat, (((((((((((0 + 1) + k6) + 1) + k14) + 1) + k22) + 1) + k30) + 1) + k38) + 1) + k46 ≤ k ∧ (((((((((((0 + 11) + n7) + 10) + n15) + 7) + n23) + 7) + n31) + 9) + n39) + 12) + n47 ≤ n ∧ rX10_init F k46 n47 q42 S43 fun v44 S45 => wkLt (wu_House_words S45 l0A (some q42)) fun S48 => ((((((((((((0 + 1) + k6) + 1) + k14) + 1) + k22) + 1) + k30) + 1) + k38) + 1) + k46) + 1 ≤ k ∧ ((((((((((((0 + 11) + n7) + 10) + n15) + 7) + n23) + 7) + n31) + 9) + n39) + 12) + n47) + 8 ≤ n ∧ ∀ q50 : Nat, ¬ q50 ∈ S48.L → wkLt (wnO S48 q50 6) fun S51 => ∃ k54 n55 : Nat, (((((((((((((0 + 1) + k6) + 1) + k14) + 1) + k22) + 1) + k30) + 1) + k38) + 1) + k46) + 1) + k54 ≤ k ∧ (((((((((((((0 + 11) + n7) + 10) + n15) + 7) + n23) + 7) + n31) + 9) + n39) + 12) + n47) + 8) + n55 ≤ n ∧ rX6_init F k54 n55 q50 S51 fun v52 S53 => wkLt (wu_House_machines S53 l0A (some q50)) fun S56 => ¬ (9 : Int32) < 0 ∧ ((((((((((((((0 + 1) + k6) + 1) + k14) + 1) + k22) + 1) + k30) + 1) + k38) + 1) + k46) + 1) + k54) + 1 ≤ k ∧ ((((((((((((((0 + 11) + n7) + 10) + n15) + 7) + n23) + 7) + n31) + 9) + n39) + 12) + n47) + 8) + n55) + ((9 : Int32)).toNatClampNeg ≤ n ∧ ((9 : Int32)).toNatClampNeg * 4 ≤ 536870912 ∧ ∀ q58 : Nat, ¬ q58 ∈ S56.L → wkLt (wnI S56 q58 13 ((9 : Int32)).toNatClampNeg (fun _ => 0)) fun S59 => wkLt (wu_House_near S59 l0A (some q58)) fun S60 => Φ () S60
set_option maxHeartbeats 4000000 in
set_option maxRecDepth 100000 in
theorem tX4_init {l : Launch} {g : wkG} {F : Nat} {k n : Nat}  {S : wPS} {l0A : Nat} {Φ : (Unit → wPS → Prop)} (hmk : wkMk g) (hW : wkTT S) (hl0A : wkIs S l0A 4) (h : rX4_init F k n l0A S Φ) : wkMet l g yX4_init wvX4_init 2 k n [.ref l0A] S (fun v' S'' => ∃ v : Unit, v' = none ∧ Φ v S'' ∧ wkTT S'' ∧ wkExt S S'') := by
  refine wkMet_ofI (ret := none) (plainFor_of_name (by decide)) rfl rfl (Nat.le_of_ble_eq_true rfl) (fun X hg C hR hI0 E => ?_)
  subst hg
  have hE : wkExt S S := wkExt.rf
  have hd : 2 ≤ 2 := Nat.le_refl _
  show wkGo l X 1 0 0 0 S [some (.ref l0A)] []
  unfold rX4_init at h
  refine wk_aload_n C dX4_init_0 rfl rfl ?_
  refine wk_objInit C hR (List.mem_of_getElem? (i := 1) rfl) (List.mem_of_getElem? (i := 2) rfl) (List.mem_of_getElem? (i := 3) rfl) (Nat.le_trans (by decide) hd) (Nat.le_of_ble_eq_true rfl) dX4_init_1 ?_
  refine wk_aload_n C dX4_init_4 rfl rfl ?_
  obtain ⟨h1b, h1c, h⟩ := h
  refine wk_newO C hR huX4_init_7 (List.mem_of_getElem? (i := 4) rfl) (List.mem_of_getElem? (i := 5) rfl) (List.mem_of_getElem? (i := 6) rfl) rfl tyX7_ok (by decide) (fun cy S a b => wNw_7 cy S a b) h1b h1c dX4_init_5 (fun q2 h1e => ?_)
  obtain ⟨S3, eS3, h⟩ := wkLt_some (h q2 h1e)
  rw [← eS3]
  obtain ⟨hXS3, hIS3⟩ := wkExt_newO eS3 h1e
  have hWS3 : wkTT S3 := trivial
  refine wk_dup C dX4_init_8 rfl ?_
  obtain ⟨k6, n7, hk6, hn7, h⟩ := h
  refine wk_callI C hR (y := yX7_init) (host := "Witnessworks") (As := []) (cnt := 0) (tX7_init (l := l) hWS3 hIS3 h) rfl (fun w h => ⟨hbX4_init_X7_init w h, gdX7_init w h⟩) (by decide +kernel) rfl (List.mem_of_getElem? (i := 7) rfl) (List.mem_of_getElem? (i := 6) rfl) (Nat.le_trans (by decide : 1 + 1 ≤ 2) hd) (by decide) ⟨by decide, by decide, by decide +kernel⟩ rfl rfl (Nat.le_of_ble_eq_true rfl) hk6 hn7 dX4_init_9 (fun v' S5 hp => ?_)
  obtain ⟨v4, rfl, h, hWS5, hXS5⟩ := hp
  obtain ⟨S8, eS8, h⟩ := wkLt_some h
  refine wk_putF C hI0 (S' := S8) huX4_init_4 (hXS5 _ _ (hXS3 _ _ hl0A)).1 (fun cy => wAt_4 cy _ (hXS5 _ _ (hXS3 _ _ hl0A)).2) rfl 0 (by decide) (List.mem_of_getElem? (i := 8) rfl) rfl tyX4_ok nmX4 rfl rfl (ty := (.object "Witnessworks$Networks")) rfl rfl rfl (by show 0 < 8; decide) (fun cy b => by rw [eS8]; exact wSt_4_0 cy _ (hXS5 _ _ (hXS3 _ _ hl0A)).2 (some q2) b) (by rw [eS8]) dX4_init_12 ?_
  have hWS8 : wkTT S8 := trivial
  have hXS8 : wkExt S5 S8 := by rw [eS8]; exact wkExt.rf
  refine wk_aload_n C dX4_init_15 rfl rfl ?_
  obtain ⟨h9b, h9c, h⟩ := h
  refine wk_newO C hR huX4_init_2 (List.mem_of_getElem? (i := 9) rfl) (List.mem_of_getElem? (i := 10) rfl) (List.mem_of_getElem? (i := 11) rfl) rfl tyX2_ok (by decide) (fun cy S a b => wNw_2 cy S a b) h9b h9c dX4_init_16 (fun q10 h9e => ?_)
  obtain ⟨S11, eS11, h⟩ := wkLt_some (h q10 h9e)
  rw [← eS11]
  obtain ⟨hXS11, hIS11⟩ := wkExt_newO eS11 h9e
  have hWS11 : wkTT S11 := trivial
  refine wk_dup C dX4_init_19 rfl ?_
  obtain ⟨k14, n15, hk14, hn15, h⟩ := h
  refine wk_callI C hR (y := yX2_init) (host := "Witnessworks") (As := []) (cnt := 0) (tX2_init (l := l) hWS11 hIS11 h) rfl (fun w h => ⟨hbX4_init_X2_init w h, gdX2_init w h⟩) (by decide +kernel) rfl (List.mem_of_getElem? (i := 12) rfl) (List.mem_of_getElem? (i := 11) rfl) (Nat.le_trans (by decide : 1 + 1 ≤ 2) hd) (by decide) ⟨by decide, by decide, by decide +kernel⟩ rfl rfl (Nat.le_of_ble_eq_true rfl) hk14 hn15 dX4_init_20 (fun v' S13 hp => ?_)
  obtain ⟨v12, rfl, h, hWS13, hXS13⟩ := hp
  obtain ⟨S16, eS16, h⟩ := wkLt_some h
  refine wk_putF C hI0 (S' := S16) huX4_init_4 (hXS13 _ _ (hXS11 _ _ (hXS8 _ _ (hXS5 _ _ (hXS3 _ _ hl0A))))).1 (fun cy => wAt_4 cy _ (hXS13 _ _ (hXS11 _ _ (hXS8 _ _ (hXS5 _ _ (hXS3 _ _ hl0A))))).2) rfl 1 (by decide) (List.mem_of_getElem? (i := 13) rfl) rfl tyX4_ok nmX4 rfl rfl (ty := (.object "Witnessworks$Drawings")) rfl rfl rfl (by show 1 < 8; decide) (fun cy b => by rw [eS16]; exact wSt_4_1 cy _ (hXS13 _ _ (hXS11 _ _ (hXS8 _ _ (hXS5 _ _ (hXS3 _ _ hl0A))))).2 (some q10) b) (by rw [eS16]) dX4_init_23 ?_
  have hWS16 : wkTT S16 := trivial
  have hXS16 : wkExt S13 S16 := by rw [eS16]; exact wkExt.rf
  refine wk_aload_n C dX4_init_26 rfl rfl ?_
  obtain ⟨h17b, h17c, h⟩ := h
  refine wk_newO C hR huX4_init_5 (List.mem_of_getElem? (i := 14) rfl) (List.mem_of_getElem? (i := 15) rfl) (List.mem_of_getElem? (i := 16) rfl) rfl tyX5_ok (by decide) (fun cy S a b => wNw_5 cy S a b) h17b h17c dX4_init_27 (fun q18 h17e => ?_)
  obtain ⟨S19, eS19, h⟩ := wkLt_some (h q18 h17e)
  rw [← eS19]
  obtain ⟨hXS19, hIS19⟩ := wkExt_newO eS19 h17e
  have hWS19 : wkTT S19 := trivial
  refine wk_dup C dX4_init_30 rfl ?_
  obtain ⟨k22, n23, hk22, hn23, h⟩ := h
  refine wk_callI C hR (y := yX5_init) (host := "Witnessworks") (As := []) (cnt := 0) (tX5_init (l := l) hmk hWS19 hIS19 h) rfl (fun w h => ⟨hbX4_init_X5_init w h, gdX5_init w h⟩) (by decide +kernel) rfl (List.mem_of_getElem? (i := 17) rfl) (List.mem_of_getElem? (i := 16) rfl) (Nat.le_trans (by decide : 1 + 1 ≤ 2) hd) (by decide) ⟨by decide, by decide, by decide +kernel⟩ rfl rfl (Nat.le_of_ble_eq_true rfl) hk22 hn23 dX4_init_31 (fun v' S21 hp => ?_)
  obtain ⟨v20, rfl, h, hWS21, hXS21⟩ := hp
  obtain ⟨S24, eS24, h⟩ := wkLt_some h
  refine wk_putF C hI0 (S' := S24) huX4_init_4 (hXS21 _ _ (hXS19 _ _ (hXS16 _ _ (hXS13 _ _ (hXS11 _ _ (hXS8 _ _ (hXS5 _ _ (hXS3 _ _ hl0A)))))))).1 (fun cy => wAt_4 cy _ (hXS21 _ _ (hXS19 _ _ (hXS16 _ _ (hXS13 _ _ (hXS11 _ _ (hXS8 _ _ (hXS5 _ _ (hXS3 _ _ hl0A)))))))).2) rfl 2 (by decide) (List.mem_of_getElem? (i := 18) rfl) rfl tyX4_ok nmX4 rfl rfl (ty := (.object "Witnessworks$Inequalities")) rfl rfl rfl (by show 2 < 8; decide) (fun cy b => by rw [eS24]; exact wSt_4_2 cy _ (hXS21 _ _ (hXS19 _ _ (hXS16 _ _ (hXS13 _ _ (hXS11 _ _ (hXS8 _ _ (hXS5 _ _ (hXS3 _ _ hl0A)))))))).2 (some q18) b) (by rw [eS24]) dX4_init_34 ?_
  have hWS24 : wkTT S24 := trivial
  have hXS24 : wkExt S21 S24 := by rw [eS24]; exact wkExt.rf
  refine wk_aload_n C dX4_init_37 rfl rfl ?_
  obtain ⟨h25b, h25c, h⟩ := h
  refine wk_newO C hR huX4_init_1 (List.mem_of_getElem? (i := 19) rfl) (List.mem_of_getElem? (i := 20) rfl) (List.mem_of_getElem? (i := 21) rfl) rfl tyX1_ok (by decide) (fun cy S a b => wNw_1 cy S a b) h25b h25c dX4_init_38 (fun q26 h25e => ?_)
  obtain ⟨S27, eS27, h⟩ := wkLt_some (h q26 h25e)
  rw [← eS27]
  obtain ⟨hXS27, hIS27⟩ := wkExt_newO eS27 h25e
  have hWS27 : wkTT S27 := trivial
  refine wk_dup C dX4_init_41 rfl ?_
  obtain ⟨k30, n31, hk30, hn31, h⟩ := h
  refine wk_callI C hR (y := yX1_init) (host := "Witnessworks") (As := []) (cnt := 0) (tX1_init (l := l) hWS27 hIS27 h) rfl (fun w h => ⟨hbX4_init_X1_init w h, gdX1_init w h⟩) (by decide +kernel) rfl (List.mem_of_getElem? (i := 22) rfl) (List.mem_of_getElem? (i := 21) rfl) (Nat.le_trans (by decide : 1 + 1 ≤ 2) hd) (by decide) ⟨by decide, by decide, by decide +kernel⟩ rfl rfl (Nat.le_of_ble_eq_true rfl) hk30 hn31 dX4_init_42 (fun v' S29 hp => ?_)
  obtain ⟨v28, rfl, h, hWS29, hXS29⟩ := hp
  obtain ⟨S32, eS32, h⟩ := wkLt_some h
  refine wk_putF C hI0 (S' := S32) huX4_init_4 (hXS29 _ _ (hXS27 _ _ (hXS24 _ _ (hXS21 _ _ (hXS19 _ _ (hXS16 _ _ (hXS13 _ _ (hXS11 _ _ (hXS8 _ _ (hXS5 _ _ (hXS3 _ _ hl0A))))))))))).1 (fun cy => wAt_4 cy _ (hXS29 _ _ (hXS27 _ _ (hXS24 _ _ (hXS21 _ _ (hXS19 _ _ (hXS16 _ _ (hXS13 _ _ (hXS11 _ _ (hXS8 _ _ (hXS5 _ _ (hXS3 _ _ hl0A))))))))))).2) rfl 3 (by decide) (List.mem_of_getElem? (i := 23) rfl) rfl tyX4_ok nmX4 rfl rfl (ty := (.object "Witnessworks$Clauses")) rfl rfl rfl (by show 3 < 8; decide) (fun cy b => by rw [eS32]; exact wSt_4_3 cy _ (hXS29 _ _ (hXS27 _ _ (hXS24 _ _ (hXS21 _ _ (hXS19 _ _ (hXS16 _ _ (hXS13 _ _ (hXS11 _ _ (hXS8 _ _ (hXS5 _ _ (hXS3 _ _ hl0A))))))))))).2 (some q26) b) (by rw [eS32]) dX4_init_45 ?_
  have hWS32 : wkTT S32 := trivial
  have hXS32 : wkExt S29 S32 := by rw [eS32]; exact wkExt.rf
  refine wk_aload_n C dX4_init_48 rfl rfl ?_
  obtain ⟨h33b, h33c, h⟩ := h
  refine wk_newO C hR huX4_init_8 (List.mem_of_getElem? (i := 24) rfl) (List.mem_of_getElem? (i := 25) rfl) (List.mem_of_getElem? (i := 26) rfl) rfl tyX8_ok (by decide) (fun cy S a b => wNw_8 cy S a b) h33b h33c dX4_init_49 (fun q34 h33e => ?_)
  obtain ⟨S35, eS35, h⟩ := wkLt_some (h q34 h33e)
  rw [← eS35]
  obtain ⟨hXS35, hIS35⟩ := wkExt_newO eS35 h33e
  have hWS35 : wkTT S35 := trivial
  refine wk_dup C dX4_init_52 rfl ?_
  obtain ⟨k38, n39, hk38, hn39, h⟩ := h
  refine wk_callI C hR (y := yX8_init) (host := "Witnessworks") (As := []) (cnt := 0) (tX8_init (l := l) hmk hWS35 hIS35 h) rfl (fun w h => ⟨hbX4_init_X8_init w h, gdX8_init w h⟩) (by decide +kernel) rfl (List.mem_of_getElem? (i := 27) rfl) (List.mem_of_getElem? (i := 26) rfl) (Nat.le_trans (by decide : 1 + 1 ≤ 2) hd) (by decide) ⟨by decide, by decide, by decide +kernel⟩ rfl rfl (Nat.le_of_ble_eq_true rfl) hk38 hn39 dX4_init_53 (fun v' S37 hp => ?_)
  obtain ⟨v36, rfl, h, hWS37, hXS37⟩ := hp
  obtain ⟨S40, eS40, h⟩ := wkLt_some h
  refine wk_putF C hI0 (S' := S40) huX4_init_4 (hXS37 _ _ (hXS35 _ _ (hXS32 _ _ (hXS29 _ _ (hXS27 _ _ (hXS24 _ _ (hXS21 _ _ (hXS19 _ _ (hXS16 _ _ (hXS13 _ _ (hXS11 _ _ (hXS8 _ _ (hXS5 _ _ (hXS3 _ _ hl0A)))))))))))))).1 (fun cy => wAt_4 cy _ (hXS37 _ _ (hXS35 _ _ (hXS32 _ _ (hXS29 _ _ (hXS27 _ _ (hXS24 _ _ (hXS21 _ _ (hXS19 _ _ (hXS16 _ _ (hXS13 _ _ (hXS11 _ _ (hXS8 _ _ (hXS5 _ _ (hXS3 _ _ hl0A)))))))))))))).2) rfl 4 (by decide) (List.mem_of_getElem? (i := 28) rfl) rfl tyX4_ok nmX4 rfl rfl (ty := (.object "Witnessworks$Numbers")) rfl rfl rfl (by show 4 < 8; decide) (fun cy b => by rw [eS40]; exact wSt_4_4 cy _ (hXS37 _ _ (hXS35 _ _ (hXS32 _ _ (hXS29 _ _ (hXS27 _ _ (hXS24 _ _ (hXS21 _ _ (hXS19 _ _ (hXS16 _ _ (hXS13 _ _ (hXS11 _ _ (hXS8 _ _ (hXS5 _ _ (hXS3 _ _ hl0A)))))))))))))).2 (some q34) b) (by rw [eS40]) dX4_init_56 ?_
  have hWS40 : wkTT S40 := trivial
  have hXS40 : wkExt S37 S40 := by rw [eS40]; exact wkExt.rf
  refine wk_aload_n C dX4_init_59 rfl rfl ?_
  obtain ⟨h41b, h41c, h⟩ := h
  refine wk_newO C hR huX4_init_10 (List.mem_of_getElem? (i := 29) rfl) (List.mem_of_getElem? (i := 30) rfl) (List.mem_of_getElem? (i := 31) rfl) rfl tyX10_ok (by decide) (fun cy S a b => wNw_10 cy S a b) h41b h41c dX4_init_60 (fun q42 h41e => ?_)
  obtain ⟨S43, eS43, h⟩ := wkLt_some (h q42 h41e)
  rw [← eS43]
  obtain ⟨hXS43, hIS43⟩ := wkExt_newO eS43 h41e
  have hWS43 : wkTT S43 := trivial
  refine wk_dup C dX4_init_63 rfl ?_
  obtain ⟨k46, n47, hk46, hn47, h⟩ := h
  refine wk_callI C hR (y := yX10_init) (host := "Witnessworks") (As := []) (cnt := 0) (tX10_init (l := l) hmk hWS43 hIS43 h) rfl (fun w h => ⟨hbX4_init_X10_init w h, gdX10_init w h⟩) (by decide +kernel) rfl (List.mem_of_getElem? (i := 32) rfl) (List.mem_of_getElem? (i := 31) rfl) (Nat.le_trans (by decide : 1 + 1 ≤ 2) hd) (by decide) ⟨by decide, by decide, by decide +kernel⟩ rfl rfl (Nat.le_of_ble_eq_true rfl) hk46 hn47 dX4_init_64 (fun v' S45 hp => ?_)
  obtain ⟨v44, rfl, h, hWS45, hXS45⟩ := hp
  obtain ⟨S48, eS48, h⟩ := wkLt_some h
  refine wk_putF C hI0 (S' := S48) huX4_init_4 (hXS45 _ _ (hXS43 _ _ (hXS40 _ _ (hXS37 _ _ (hXS35 _ _ (hXS32 _ _ (hXS29 _ _ (hXS27 _ _ (hXS24 _ _ (hXS21 _ _ (hXS19 _ _ (hXS16 _ _ (hXS13 _ _ (hXS11 _ _ (hXS8 _ _ (hXS5 _ _ (hXS3 _ _ hl0A))))))))))))))))).1 (fun cy => wAt_4 cy _ (hXS45 _ _ (hXS43 _ _ (hXS40 _ _ (hXS37 _ _ (hXS35 _ _ (hXS32 _ _ (hXS29 _ _ (hXS27 _ _ (hXS24 _ _ (hXS21 _ _ (hXS19 _ _ (hXS16 _ _ (hXS13 _ _ (hXS11 _ _ (hXS8 _ _ (hXS5 _ _ (hXS3 _ _ hl0A))))))))))))))))).2) rfl 5 (by decide) (List.mem_of_getElem? (i := 33) rfl) rfl tyX4_ok nmX4 rfl rfl (ty := (.object "Witnessworks$Words")) rfl rfl rfl (by show 5 < 8; decide) (fun cy b => by rw [eS48]; exact wSt_4_5 cy _ (hXS45 _ _ (hXS43 _ _ (hXS40 _ _ (hXS37 _ _ (hXS35 _ _ (hXS32 _ _ (hXS29 _ _ (hXS27 _ _ (hXS24 _ _ (hXS21 _ _ (hXS19 _ _ (hXS16 _ _ (hXS13 _ _ (hXS11 _ _ (hXS8 _ _ (hXS5 _ _ (hXS3 _ _ hl0A))))))))))))))))).2 (some q42) b) (by rw [eS48]) dX4_init_67 ?_
  have hWS48 : wkTT S48 := trivial
  have hXS48 : wkExt S45 S48 := by rw [eS48]; exact wkExt.rf
  refine wk_aload_n C dX4_init_70 rfl rfl ?_
  obtain ⟨h49b, h49c, h⟩ := h
  refine wk_newO C hR huX4_init_6 (List.mem_of_getElem? (i := 34) rfl) (List.mem_of_getElem? (i := 35) rfl) (List.mem_of_getElem? (i := 36) rfl) rfl tyX6_ok (by decide) (fun cy S a b => wNw_6 cy S a b) h49b h49c dX4_init_71 (fun q50 h49e => ?_)
  obtain ⟨S51, eS51, h⟩ := wkLt_some (h q50 h49e)
  rw [← eS51]
  obtain ⟨hXS51, hIS51⟩ := wkExt_newO eS51 h49e
  have hWS51 : wkTT S51 := trivial
  refine wk_dup C dX4_init_74 rfl ?_
  obtain ⟨k54, n55, hk54, hn55, h⟩ := h
  refine wk_callI C hR (y := yX6_init) (host := "Witnessworks") (As := []) (cnt := 0) (tX6_init (l := l) hWS51 hIS51 h) rfl (fun w h => ⟨hbX4_init_X6_init w h, gdX6_init w h⟩) (by decide +kernel) rfl (List.mem_of_getElem? (i := 37) rfl) (List.mem_of_getElem? (i := 36) rfl) (Nat.le_trans (by decide : 1 + 1 ≤ 2) hd) (by decide) ⟨by decide, by decide, by decide +kernel⟩ rfl rfl (Nat.le_of_ble_eq_true rfl) hk54 hn55 dX4_init_75 (fun v' S53 hp => ?_)
  obtain ⟨v52, rfl, h, hWS53, hXS53⟩ := hp
  obtain ⟨S56, eS56, h⟩ := wkLt_some h
  refine wk_putF C hI0 (S' := S56) huX4_init_4 (hXS53 _ _ (hXS51 _ _ (hXS48 _ _ (hXS45 _ _ (hXS43 _ _ (hXS40 _ _ (hXS37 _ _ (hXS35 _ _ (hXS32 _ _ (hXS29 _ _ (hXS27 _ _ (hXS24 _ _ (hXS21 _ _ (hXS19 _ _ (hXS16 _ _ (hXS13 _ _ (hXS11 _ _ (hXS8 _ _ (hXS5 _ _ (hXS3 _ _ hl0A)))))))))))))))))))).1 (fun cy => wAt_4 cy _ (hXS53 _ _ (hXS51 _ _ (hXS48 _ _ (hXS45 _ _ (hXS43 _ _ (hXS40 _ _ (hXS37 _ _ (hXS35 _ _ (hXS32 _ _ (hXS29 _ _ (hXS27 _ _ (hXS24 _ _ (hXS21 _ _ (hXS19 _ _ (hXS16 _ _ (hXS13 _ _ (hXS11 _ _ (hXS8 _ _ (hXS5 _ _ (hXS3 _ _ hl0A)))))))))))))))))))).2) rfl 6 (by decide) (List.mem_of_getElem? (i := 38) rfl) rfl tyX4_ok nmX4 rfl rfl (ty := (.object "Witnessworks$Machines")) rfl rfl rfl (by show 6 < 8; decide) (fun cy b => by rw [eS56]; exact wSt_4_6 cy _ (hXS53 _ _ (hXS51 _ _ (hXS48 _ _ (hXS45 _ _ (hXS43 _ _ (hXS40 _ _ (hXS37 _ _ (hXS35 _ _ (hXS32 _ _ (hXS29 _ _ (hXS27 _ _ (hXS24 _ _ (hXS21 _ _ (hXS19 _ _ (hXS16 _ _ (hXS13 _ _ (hXS11 _ _ (hXS8 _ _ (hXS5 _ _ (hXS3 _ _ hl0A)))))))))))))))))))).2 (some q50) b) (by rw [eS56]) dX4_init_78 ?_
  have hWS56 : wkTT S56 := trivial
  have hXS56 : wkExt S53 S56 := by rw [eS56]; exact wkExt.rf
  refine wk_aload_n C dX4_init_81 rfl rfl ?_
  refine wk_bipush C (v := 9) dX4_init_82 (by decide) ?_
  obtain ⟨h57a, h57b, h57c, h57d, h⟩ := h
  refine wk_newI C hR (List.mem_of_getElem? (i := 39) rfl) h57a h57b h57c h57d dX4_init_84 (fun q58 h57e => ?_)
  obtain ⟨S59, eS59, h⟩ := wkLt_some (h q58 h57e)
  rw [← eS59]
  obtain ⟨hXS59, hIS59⟩ := wkExt_newI eS59 h57e
  have hWS59 : wkTT S59 := trivial
  obtain ⟨S60, eS60, h⟩ := wkLt_some h
  refine wk_putF C hI0 (S' := S60) huX4_init_4 (hXS59 _ _ (hXS56 _ _ (hXS53 _ _ (hXS51 _ _ (hXS48 _ _ (hXS45 _ _ (hXS43 _ _ (hXS40 _ _ (hXS37 _ _ (hXS35 _ _ (hXS32 _ _ (hXS29 _ _ (hXS27 _ _ (hXS24 _ _ (hXS21 _ _ (hXS19 _ _ (hXS16 _ _ (hXS13 _ _ (hXS11 _ _ (hXS8 _ _ (hXS5 _ _ (hXS3 _ _ hl0A)))))))))))))))))))))).1 (fun cy => wAt_4 cy _ (hXS59 _ _ (hXS56 _ _ (hXS53 _ _ (hXS51 _ _ (hXS48 _ _ (hXS45 _ _ (hXS43 _ _ (hXS40 _ _ (hXS37 _ _ (hXS35 _ _ (hXS32 _ _ (hXS29 _ _ (hXS27 _ _ (hXS24 _ _ (hXS21 _ _ (hXS19 _ _ (hXS16 _ _ (hXS13 _ _ (hXS11 _ _ (hXS8 _ _ (hXS5 _ _ (hXS3 _ _ hl0A)))))))))))))))))))))).2) rfl 7 (by decide) (List.mem_of_getElem? (i := 40) rfl) rfl tyX4_ok nmX4 rfl rfl (ty := (.array .int)) rfl rfl rfl (by show 7 < 8; decide) (fun cy b => by rw [eS60]; exact wSt_4_7 cy _ (hXS59 _ _ (hXS56 _ _ (hXS53 _ _ (hXS51 _ _ (hXS48 _ _ (hXS45 _ _ (hXS43 _ _ (hXS40 _ _ (hXS37 _ _ (hXS35 _ _ (hXS32 _ _ (hXS29 _ _ (hXS27 _ _ (hXS24 _ _ (hXS21 _ _ (hXS19 _ _ (hXS16 _ _ (hXS13 _ _ (hXS11 _ _ (hXS8 _ _ (hXS5 _ _ (hXS3 _ _ hl0A)))))))))))))))))))))).2 (some q58) b) (by rw [eS60]) dX4_init_86 ?_
  have hWS60 : wkTT S60 := trivial
  have hXS60 : wkExt S59 S60 := by rw [eS60]; exact wkExt.rf
  exact E _ _ _ _ _ h57b h57c dX4_init_89 ⟨(), rfl, h, hWS60, (wkExt.tr (wkExt.tr (wkExt.tr (wkExt.tr (wkExt.tr (wkExt.tr (wkExt.tr (wkExt.tr (wkExt.tr (wkExt.tr (wkExt.tr (wkExt.tr (wkExt.tr (wkExt.tr (wkExt.tr (wkExt.tr (wkExt.tr (wkExt.tr (wkExt.tr (wkExt.tr (wkExt.tr (wkExt.tr (wkExt.tr hE hXS3) hXS5) hXS8) hXS11) hXS13) hXS16) hXS19) hXS21) hXS24) hXS27) hXS29) hXS32) hXS35) hXS37) hXS40) hXS43) hXS45) hXS48) hXS51) hXS53) hXS56) hXS59) hXS60)⟩
def wvX4_areUnlikePoints : List Cond := .code yX4_areUnlikePoints cX4_areUnlikePoints 4 (some .boolean) :: (([.methodLink RX4 198 yX4_isWithin, .static yX4_isWithin, .initialized RX4, .static yX11_has, .initialized RX11] : List Cond) ++ (([]) ++ (wvX4_isWithin ++ (wvX11_has))))
theorem hbX4_areUnlikePoints_X4_isWithin : ∀ w ∈ wvX4_isWithin, w ∈ wvX4_areUnlikePoints := fun w h => List.mem_cons_of_mem _ (List.mem_append_right _ (List.mem_append_right _ (List.mem_append_left _ h)))
theorem hbX4_areUnlikePoints_X11_has : ∀ w ∈ wvX11_has, w ∈ wvX4_areUnlikePoints := fun w h => List.mem_cons_of_mem _ (List.mem_append_right _ (List.mem_append_right _ (List.mem_append_right _ h)))
theorem gdX4_areUnlikePoints : ∀ w ∈ wvX4_areUnlikePoints, wkGd w := wkGdC rfl (wkGdA (wkGdL (by decide +kernel)) (wkGdA (fun _ h => absurd h List.not_mem_nil) (wkGdA gdX4_isWithin gdX11_has)))
def rX4_areUnlikePoints_b0 (F : Nat) (rec : Nat → Nat → Int32 → Int32 → Int32 → wPS → (Int32 → wPS → Prop) → Prop) (l0A : Nat) (l1I : Int32) (l2I : Int32) (l3I : Int32) (S : wPS) (Φ : (Int32 → wPS → Prop)) : Prop :=
  if l1I < l3I then (Φ (1 : Int32) S) else (if (Int32.ofNat (S.len l0A)) ≤ l3I then (Φ (1 : Int32) S) else (¬ (l3I < 0 ∨ S.len l0A ≤ (l3I).toNatClampNeg) ∧ rX4_isWithin F (S.rI l0A (l3I).toNatClampNeg) (0 : Int32) l1I S fun v4 S5 => if v4 = 0 then (Φ (0 : Int32) S5) else (¬ (l3I < 0 ∨ S5.len l0A ≤ (l3I).toNatClampNeg) ∧ rX11_has F l2I (S5.rI l0A (l3I).toNatClampNeg) S5 fun v11 S12 => if v11 = 0 then (¬ (l3I < 0 ∨ S12.len l0A ≤ (l3I).toNatClampNeg) ∧ wkLt ((l2I ||| ((1 : Int32) <<< ((S12.rI l0A (l3I).toNatClampNeg) &&& 31)))) fun x18 => wkLt (l3I + (1 : Int32)) fun x19 => rec 0 l0A l1I x18 x19 S12 Φ) else (Φ (0 : Int32) S12))))
def rX4_areUnlikePoints_go (F : Nat) : Nat → Nat → Nat → Int32 → Int32 → Int32 → wPS → (Int32 → wPS → Prop) → Prop
  | 0, _, _, _, _, _, _, _ => False
  | k' + 1, lab, l0A, l1I, l2I, l3I, S, Φ => if lab = 0 then rX4_areUnlikePoints_b0 F (rX4_areUnlikePoints_go F k') l0A l1I l2I l3I S Φ else False
def rX4_areUnlikePoints_s (F : Nat) (rec : Nat → Nat → Int32 → Int32 → Int32 → wPS → (Int32 → wPS → Prop) → Prop) (l0A : Nat) (l1I : Int32) (S : wPS) (Φ : (Int32 → wPS → Prop)) : Prop :=
  rec 0 l0A l1I (0 : Int32) (0 : Int32) S Φ
def rX4_areUnlikePoints (F : Nat) (l0A : Nat) (l1I : Int32) (S : wPS) (Φ : (Int32 → wPS → Prop)) : Prop := rX4_areUnlikePoints_s F (rX4_areUnlikePoints_go F F) l0A l1I S Φ
set_option maxHeartbeats 4000000 in
set_option maxRecDepth 100000 in
theorem tX4_areUnlikePoints_go {l : Launch} {X : wkX} {d F : Nat} {S0 : wPS} {Φ : (Int32 → wPS → Prop)} (C : wkC X cX4_areUnlikePoints RX4 4 wvX4_areUnlikePoints) (hR : wkRm X d 0 0) (hd : 1 ≤ d) (E : wkEnd l X cX4_areUnlikePoints 4 (some .boolean) 0 0 (fun v' S'' => ∃ v : Int32, v' = some (.int v) ∧ Φ v S'' ∧ wkWF S'' ∧ wkExt S0 S'')) : ∀ k' : Nat, (∀ (l0A : Nat) (l1I : Int32) (l2I : Int32) (l3I : Int32) (S : wPS), wkWF S → wkExt S0 S → wkIs S l0A 13 → rX4_areUnlikePoints_go F k' 0 l0A l1I l2I l3I S Φ → wkGo l X 4 0 0 4 S [some (.ref l0A), some (.int l1I), some (.int l2I), some (.int l3I)] []) := by
  intro k'
  induction k' with
  | zero => exact fun l0A l1I l2I l3I S hW hE hl0A h => h.elim
  | succ k' ih =>
    · intro l0A l1I l2I l3I S hW hE hl0A h
      have h : rX4_areUnlikePoints_b0 F (rX4_areUnlikePoints_go F k') l0A l1I l2I l3I S Φ := by
        rw [rX4_areUnlikePoints_go, if_pos (rfl : (0 : Nat) = 0)] at h
        exact h
      unfold rX4_areUnlikePoints_b0 at h
      refine wk_iload_n C dX4_areUnlikePoints_4 rfl rfl ?_
      refine wk_iload_n C dX4_areUnlikePoints_5 rfl rfl ?_
      refine wk_icmp_gt C (tgt := 52) dX4_areUnlikePoints_6 (by decide) (fun c1 => ?_) (fun c1 => ?_)
      · rw [if_pos c1] at h
        refine wk_iconst C (v := 1) dX4_areUnlikePoints_52 (by decide) ?_
        exact E _ _ _ _ _ _ (Nat.le_refl 0) (Nat.le_refl 0) dX4_areUnlikePoints_53 rfl ⟨(1 : Int32), rfl, h, hW, hE⟩
      · rw [if_neg c1] at h
        refine wk_iload_n C dX4_areUnlikePoints_9 rfl rfl ?_
        refine wk_aload_n C dX4_areUnlikePoints_10 rfl rfl ?_
        refine wk_ilen C hl0A.1 hl0A.2 rfl dX4_areUnlikePoints_11 ?_
        refine wk_icmp_ge C (tgt := 52) dX4_areUnlikePoints_12 (by decide) (fun c2 => ?_) (fun c2 => ?_)
        · rw [if_pos c2] at h
          refine wk_iconst C (v := 1) dX4_areUnlikePoints_52 (by decide) ?_
          exact E _ _ _ _ _ _ (Nat.le_refl 0) (Nat.le_refl 0) dX4_areUnlikePoints_53 rfl ⟨(1 : Int32), rfl, h, hW, hE⟩
        · rw [if_neg c2] at h
          refine wk_aload_n C dX4_areUnlikePoints_15 rfl rfl ?_
          refine wk_iload_n C dX4_areUnlikePoints_16 rfl rfl ?_
          obtain ⟨i3, h⟩ := h
          refine wk_iald C hl0A.1 hl0A.2 i3 rfl dX4_areUnlikePoints_17 ?_
          refine wk_iconst C (v := 0) dX4_areUnlikePoints_18 (by decide) ?_
          refine wk_iload_n C dX4_areUnlikePoints_19 rfl rfl ?_
          refine wk_callW C hR (As := [.int (S.rI l0A (l3I).toNatClampNeg), .int (0 : Int32), .int l1I]) (cnt := 3) (tX4_isWithin (l := l) hW  h) rfl (wkGoodW (List.mem_of_getElem? (i := 1) rfl) (List.mem_of_getElem? (i := 2) rfl) (List.mem_of_getElem? (i := 3) rfl) hbX4_areUnlikePoints_X4_isWithin gdX4_isWithin) (Nat.le_trans (by decide : 0 + 1 ≤ 1) hd) (by decide) ⟨by decide, by decide, by decide +kernel⟩ rfl rfl (Nat.le_of_ble_eq_true rfl) (Nat.le_refl 0) (Nat.le_refl 0) dX4_areUnlikePoints_20 (fun v' S5 hp => ?_)
          obtain ⟨v4, rfl, h, hWS5, hXS5⟩ := hp
          refine wk_if_eq C (tgt := 36) dX4_areUnlikePoints_23 (by decide) (fun c9 => ?_) (fun c9 => ?_)
          · rw [if_pos c9] at h
            refine wk_iconst C (v := 0) dX4_areUnlikePoints_36 (by decide) ?_
            exact E _ _ _ _ _ _ (Nat.le_refl 0) (Nat.le_refl 0) dX4_areUnlikePoints_37 rfl ⟨(0 : Int32), rfl, h, hWS5, (wkExt.tr hE hXS5)⟩
          · rw [if_neg c9] at h
            refine wk_iload_n C dX4_areUnlikePoints_26 rfl rfl ?_
            refine wk_aload_n C dX4_areUnlikePoints_27 rfl rfl ?_
            refine wk_iload_n C dX4_areUnlikePoints_28 rfl rfl ?_
            obtain ⟨i10, h⟩ := h
            refine wk_iald C (hXS5 _ _ hl0A).1 (hXS5 _ _ hl0A).2 i10 rfl dX4_areUnlikePoints_29 ?_
            refine wk_callN C hR (y := yX11_has) (host := "Witnessworks") (As := [.int l2I, .int (S5.rI l0A (l3I).toNatClampNeg)]) (cnt := 2) (tX11_has (l := l) hWS5  h) rfl (fun w h => ⟨hbX4_areUnlikePoints_X11_has w h, gdX11_has w h⟩) (by decide +kernel) (List.mem_of_getElem? (i := 4) rfl) (List.mem_of_getElem? (i := 5) rfl) (Nat.le_trans (by decide : 0 + 1 ≤ 1) hd) (by decide) ⟨by decide, by decide, by decide +kernel⟩ rfl rfl (Nat.le_of_ble_eq_true rfl) (Nat.le_refl 0) (Nat.le_refl 0) dX4_areUnlikePoints_30 (fun v' S12 hp => ?_)
            obtain ⟨v11, rfl, h, hWS12, hXS12⟩ := hp
            refine wk_if_eq C (tgt := 38) dX4_areUnlikePoints_33 (by decide) (fun c16 => ?_) (fun c16 => ?_)
            · rw [if_pos c16] at h
              refine wk_iload_n C dX4_areUnlikePoints_38 rfl rfl ?_
              refine wk_iconst C (v := 1) dX4_areUnlikePoints_39 (by decide) ?_
              refine wk_aload_n C dX4_areUnlikePoints_40 rfl rfl ?_
              refine wk_iload_n C dX4_areUnlikePoints_41 rfl rfl ?_
              obtain ⟨i17, h⟩ := h
              refine wk_iald C (hXS12 _ _ (hXS5 _ _ hl0A)).1 (hXS12 _ _ (hXS5 _ _ hl0A)).2 i17 rfl dX4_areUnlikePoints_42 ?_
              refine wk_ishl C dX4_areUnlikePoints_43 rfl ?_
              refine wk_ior C dX4_areUnlikePoints_44 rfl ?_
              obtain ⟨x18, ex18, h⟩ := wkLt_some h
              refine wk_topi ex18 ?_
              refine wk_istore_n C (lv' := [some (.ref l0A), some (.int l1I), some (.int x18), some (.int l3I)]) dX4_areUnlikePoints_45 rfl (by decide) rfl ?_
              obtain ⟨x19, ex19, h⟩ := wkLt_some h
              refine wk_iinc C (lv' := [some (.ref l0A), some (.int l1I), some (.int x18), some (.int x19)]) dX4_areUnlikePoints_46 rfl (by rw [ex19]; rfl) (by decide) rfl ?_
              refine wk_goto C (tgt := 4) dX4_areUnlikePoints_49 (by decide) ?_
              exact wk_forget (lv' := [some (.ref l0A), some (.int l1I), some (.int x18), some (.int x19)]) (wkLs.le ⟨rfl, rfl, rfl, rfl, trivial⟩) (ih _ _ _ _ _ hWS12 (wkExt.tr (wkExt.tr hE hXS5) hXS12) (hXS12 _ _ (hXS5 _ _ hl0A)) h)
            · rw [if_neg c16] at h
              refine wk_iconst C (v := 0) dX4_areUnlikePoints_36 (by decide) ?_
              exact E _ _ _ _ _ _ (Nat.le_refl 0) (Nat.le_refl 0) dX4_areUnlikePoints_37 rfl ⟨(0 : Int32), rfl, h, hWS12, (wkExt.tr (wkExt.tr hE hXS5) hXS12)⟩
set_option maxHeartbeats 4000000 in
set_option maxRecDepth 100000 in
theorem tX4_areUnlikePoints {l : Launch} {g : wkG} {F : Nat}  {S : wPS} {l0A : Nat} {l1I : Int32} {Φ : (Int32 → wPS → Prop)} (hW : wkWF S) (hl0A : wkIs S l0A 13) (h : rX4_areUnlikePoints F l0A l1I S Φ) : wkMet l g yX4_areUnlikePoints wvX4_areUnlikePoints 1 0 0 [.ref l0A, .int l1I] S (fun v' S'' => ∃ v : Int32, v' = some (.int v) ∧ Φ v S'' ∧ wkWF S'' ∧ wkExt S S'') := by
  refine wkMet_of (ret := (some .boolean)) (by decide) rfl (Nat.le_of_ble_eq_true rfl) (fun X hg C hR E => ?_)
  subst hg
  have hE : wkExt S S := wkExt.rf
  have hd : 1 ≤ 1 := Nat.le_refl _
  show wkGo l X 4 0 0 0 S [some (.ref l0A), some (.int l1I), none, none] []
  have ih := tX4_areUnlikePoints_go (F := F) C hR hd E F
  have h : rX4_areUnlikePoints_s F (rX4_areUnlikePoints_go F F) l0A l1I S Φ := h
  unfold rX4_areUnlikePoints_s at h
  refine wk_iconst C (v := 0) dX4_areUnlikePoints_0 (by decide) ?_
  refine wk_istore_n C (lv' := [some (.ref l0A), some (.int l1I), some (.int (0 : Int32)), none]) dX4_areUnlikePoints_1 rfl (by decide) rfl ?_
  refine wk_iconst C (v := 0) dX4_areUnlikePoints_2 (by decide) ?_
  refine wk_istore_n C (lv' := [some (.ref l0A), some (.int l1I), some (.int (0 : Int32)), some (.int (0 : Int32))]) dX4_areUnlikePoints_3 rfl (by decide) rfl ?_
  exact wk_forget (lv' := [some (.ref l0A), some (.int l1I), some (.int (0 : Int32)), some (.int (0 : Int32))]) (wkLs.le ⟨rfl, rfl, rfl, rfl, trivial⟩) (ih _ _ _ _ _ hW hE hl0A h)
