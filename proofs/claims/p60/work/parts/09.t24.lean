def wvX0_init : List Cond := .code yX0_init cX0_init 1 none :: (([.methodLink RX0 1 objectInit, .instanceMethod objectInit, .code objectInit ⟨#[0xb1]⟩ 1 none, .classLink RX0 7 RX9, .instantiable RX9 2, .initialized RX9, .instanceMethod yX9_init, .fieldLink RX0 10 "Witnessworks$Claim" "row" "LWitnessworks$Row;"] : List Cond) ++ ((wsX90 ++ (wsX00)) ++ (wvX9_init)))
theorem huX0_init_9 : ∀ w ∈ u_ws RX9 TX9 2, w ∈ wvX0_init := fun w h => List.mem_cons_of_mem _ (List.mem_append_right _ (List.mem_append_left _ (List.mem_append_left _ h)))
theorem huX0_init_0 : ∀ w ∈ u_ws RX0 TX0 4, w ∈ wvX0_init := fun w h => List.mem_cons_of_mem _ (List.mem_append_right _ (List.mem_append_left _ (List.mem_append_right _ h)))
theorem hbX0_init_X9_init : ∀ w ∈ wvX9_init, w ∈ wvX0_init := fun w h => List.mem_cons_of_mem _ (List.mem_append_right _ (List.mem_append_right _ h))
theorem gdX0_init : ∀ w ∈ wvX0_init, wkGd w := wkGdC rfl (wkGdA (wkGdL (by decide +kernel)) (wkGdA (wkGdA gdX9 gdX0) gdX9_init))
def rX0_init (F : Nat) (k n : Nat) (l0A : Nat) (S : wPS) (Φ : (Unit → wPS → Prop)) : Prop :=
  0 + 1 ≤ k ∧ 0 + 2 ≤ n ∧ ∀ q2 : Nat, ¬ q2 ∈ S.L → wkLt (wnO S q2 9) fun S3 => ∃ k6 n7 : Nat, (0 + 1) + k6 ≤ k ∧ (0 + 2) + n7 ≤ n ∧ rX9_init F k6 n7 q2 S3 fun v4 S5 => wkLt (wu_Claim_row S5 l0A (some q2)) fun S8 => Φ () S8
set_option maxHeartbeats 4000000 in
set_option maxRecDepth 100000 in
theorem tX0_init {l : Launch} {g : wkG} {F : Nat} {k n : Nat}  {S : wPS} {l0A : Nat} {Φ : (Unit → wPS → Prop)} (hW : wkTT S) (hl0A : wkIs S l0A 0) (h : rX0_init F k n l0A S Φ) : wkMet l g yX0_init wvX0_init 2 k n [.ref l0A] S (fun v' S'' => ∃ v : Unit, v' = none ∧ Φ v S'' ∧ wkTT S'' ∧ wkExt S S'') := by
  refine wkMet_ofI (ret := none) (plainFor_of_name (by decide)) rfl rfl (Nat.le_of_ble_eq_true rfl) (fun X hg C hR hI0 E => ?_)
  subst hg
  have hE : wkExt S S := wkExt.rf
  have hd : 2 ≤ 2 := Nat.le_refl _
  show wkGo l X 1 0 0 0 S [some (.ref l0A)] []
  unfold rX0_init at h
  refine wk_aload_n C dX0_init_0 rfl rfl ?_
  refine wk_objInit C hR (List.mem_of_getElem? (i := 1) rfl) (List.mem_of_getElem? (i := 2) rfl) (List.mem_of_getElem? (i := 3) rfl) (Nat.le_trans (by decide) hd) (Nat.le_of_ble_eq_true rfl) dX0_init_1 ?_
  refine wk_aload_n C dX0_init_4 rfl rfl ?_
  obtain ⟨h1b, h1c, h⟩ := h
  refine wk_newO C hR huX0_init_9 (List.mem_of_getElem? (i := 4) rfl) (List.mem_of_getElem? (i := 5) rfl) (List.mem_of_getElem? (i := 6) rfl) rfl tyX9_ok (by decide) (fun cy S a b => wNw_9 cy S a b) h1b h1c dX0_init_5 (fun q2 h1e => ?_)
  obtain ⟨S3, eS3, h⟩ := wkLt_some (h q2 h1e)
  rw [← eS3]
  obtain ⟨hXS3, hIS3⟩ := wkExt_newO eS3 h1e
  have hWS3 : wkTT S3 := trivial
  refine wk_dup C dX0_init_8 rfl ?_
  obtain ⟨k6, n7, hk6, hn7, h⟩ := h
  refine wk_callI C hR (y := yX9_init) (host := "Witnessworks") (As := []) (cnt := 0) (tX9_init (l := l) hWS3 hIS3 h) rfl (fun w h => ⟨hbX0_init_X9_init w h, gdX9_init w h⟩) (by decide +kernel) rfl (List.mem_of_getElem? (i := 7) rfl) (List.mem_of_getElem? (i := 6) rfl) (Nat.le_trans (by decide : 1 + 1 ≤ 2) hd) (by decide) ⟨by decide, by decide, by decide +kernel⟩ rfl rfl (Nat.le_of_ble_eq_true rfl) hk6 hn7 dX0_init_9 (fun v' S5 hp => ?_)
  obtain ⟨v4, rfl, h, hWS5, hXS5⟩ := hp
  obtain ⟨S8, eS8, h⟩ := wkLt_some h
  refine wk_putF C hI0 (S' := S8) huX0_init_0 (hXS5 _ _ (hXS3 _ _ hl0A)).1 (fun cy => wAt_0 cy _ (hXS5 _ _ (hXS3 _ _ hl0A)).2) rfl 3 (by decide) (List.mem_of_getElem? (i := 8) rfl) rfl tyX0_ok nmX0 rfl rfl (ty := (.object "Witnessworks$Row")) rfl rfl rfl (by show 3 < 4; decide) (fun cy b => by rw [eS8]; exact wSt_0_3 cy _ (hXS5 _ _ (hXS3 _ _ hl0A)).2 (some q2) b) (by rw [eS8]) dX0_init_12 ?_
  have hWS8 : wkTT S8 := trivial
  have hXS8 : wkExt S5 S8 := by rw [eS8]; exact wkExt.rf
  exact E _ _ _ _ _ hk6 hn7 dX0_init_15 ⟨(), rfl, h, hWS8, (wkExt.tr (wkExt.tr (wkExt.tr hE hXS3) hXS5) hXS8)⟩
def wvX0_begin : List Cond := .code yX0_begin cX0_begin 5 none :: (([.fieldLink RX0 16 "Witnessworks$Claim" "person" "I", .fieldLink RX0 20 "Witnessworks$Claim" "entry" "I", .fieldLink RX0 23 "Witnessworks$Claim" "isWitness" "Z", .fieldLink RX0 10 "Witnessworks$Claim" "row" "LWitnessworks$Row;", .methodLink RX0 27 yX9_copy, .instanceMethod yX9_copy, .selects RX9 yX9_copy yX9_copy, .initialized RX9] : List Cond) ++ ((wsX00) ++ (wvX9_copy)))
theorem huX0_begin_0 : ∀ w ∈ u_ws RX0 TX0 4, w ∈ wvX0_begin := fun w h => List.mem_cons_of_mem _ (List.mem_append_right _ (List.mem_append_left _ h))
theorem hbX0_begin_X9_copy : ∀ w ∈ wvX9_copy, w ∈ wvX0_begin := fun w h => List.mem_cons_of_mem _ (List.mem_append_right _ (List.mem_append_right _ h))
theorem gdX0_begin : ∀ w ∈ wvX0_begin, wkGd w := wkGdC rfl (wkGdA (wkGdL (by decide +kernel)) (wkGdA gdX0 gdX9_copy))
def rX0_begin (F : Nat) (k n : Nat) (l0A : Nat) (l1I : Int32) (l2I : Int32) (l3I : Int32) (l4A : Nat) (S : wPS) (Φ : (Unit → wPS → Prop)) : Prop :=
  wkLt (wu_Claim_person S l0A l1I) fun S1 => wkLt (wu_Claim_entry S1 l0A l2I) fun S2 => (l3I = 0 ∨ l3I = 1) ∧ wkLt (wu_Claim_isWitness S2 l0A l3I) fun S4 => ∃ k8 n9 : Nat, 0 + k8 ≤ k ∧ 0 + n9 ≤ n ∧ rX9_copy F k8 n9 (wkAd (gClaim_row S4 l0A)) l4A S4 fun v5 S6 => Φ () S6
set_option maxHeartbeats 4000000 in
set_option maxRecDepth 100000 in
theorem tX0_begin {l : Launch} {g : wkG} {F : Nat} {k n : Nat}  {S : wPS} {l0A : Nat} {l1I : Int32} {l2I : Int32} {l3I : Int32} {l4A : Nat} {Φ : (Unit → wPS → Prop)} (hW : wkWF S) (hl0A : wkIs S l0A 0) (hl4A : wkIs S l4A 9) (h : rX0_begin F k n l0A l1I l2I l3I l4A S Φ) : wkMet l g yX0_begin wvX0_begin 2 k n [.ref l0A, .int l1I, .int l2I, .int l3I, .ref l4A] S (fun v' S'' => ∃ v : Unit, v' = none ∧ Φ v S'' ∧ wkWF S'' ∧ wkExt S S'') := by
  refine wkMet_of (ret := none) (by decide) rfl (Nat.le_of_ble_eq_true rfl) (fun X hg C hR E => ?_)
  subst hg
  have hE : wkExt S S := wkExt.rf
  have hd : 2 ≤ 2 := Nat.le_refl _
  show wkGo l X 5 0 0 0 S [some (.ref l0A), some (.int l1I), some (.int l2I), some (.int l3I), some (.ref l4A)] []
  unfold rX0_begin at h
  refine wk_aload_n C dX0_begin_0 rfl rfl ?_
  refine wk_iload_n C dX0_begin_1 rfl rfl ?_
  obtain ⟨S1, eS1, h⟩ := wkLt_some h
  refine wk_put C (S' := S1) huX0_begin_0 hl0A.1 (fun cy => wAt_0 cy _ hl0A.2) rfl 0 (by decide) (List.mem_of_getElem? (i := 1) rfl) rfl tyX0_ok nmX0 rfl (ty := .int) rfl rfl rfl (by show 0 < 4; decide) (fun cy b => by rw [eS1]; exact wSt_0_0 cy _ hl0A.2 _ b) (by rw [eS1]) dX0_begin_2 ?_
  have hWS1 : wkWF S1 := by rw [eS1]; exact hW
  have hXS1 : wkExt S S1 := by rw [eS1]; exact wkExt.rf
  refine wk_aload_n C dX0_begin_5 rfl rfl ?_
  refine wk_iload_n C dX0_begin_6 rfl rfl ?_
  obtain ⟨S2, eS2, h⟩ := wkLt_some h
  refine wk_put C (S' := S2) huX0_begin_0 (hXS1 _ _ hl0A).1 (fun cy => wAt_0 cy _ (hXS1 _ _ hl0A).2) rfl 1 (by decide) (List.mem_of_getElem? (i := 2) rfl) rfl tyX0_ok nmX0 rfl (ty := .int) rfl rfl rfl (by show 1 < 4; decide) (fun cy b => by rw [eS2]; exact wSt_0_1 cy _ (hXS1 _ _ hl0A).2 _ b) (by rw [eS2]) dX0_begin_7 ?_
  have hWS2 : wkWF S2 := by rw [eS2]; exact hWS1
  have hXS2 : wkExt S1 S2 := by rw [eS2]; exact wkExt.rf
  refine wk_aload_n C dX0_begin_10 rfl rfl ?_
  refine wk_iload_n C dX0_begin_11 rfl rfl ?_
  obtain ⟨b3, h⟩ := h
  obtain ⟨S4, eS4, h⟩ := wkLt_some h
  refine wk_put C (S' := S4) huX0_begin_0 (hXS2 _ _ (hXS1 _ _ hl0A)).1 (fun cy => wAt_0 cy _ (hXS2 _ _ (hXS1 _ _ hl0A)).2) rfl 2 (by decide) (List.mem_of_getElem? (i := 3) rfl) rfl tyX0_ok nmX0 rfl (ty := .boolean) rfl (wkNarZ b3) (wkFitZ b3) (by show 2 < 4; decide) (fun cy b => by rw [eS4]; exact wSt_0_2 cy _ (hXS2 _ _ (hXS1 _ _ hl0A)).2 _ b) (by rw [eS4]) dX0_begin_12 ?_
  have hWS4 : wkWF S4 := by rw [eS4]; exact hWS2
  have hXS4 : wkExt S2 S4 := by rw [eS4]; exact wkExt.rf
  refine wk_aload_n C dX0_begin_15 rfl rfl ?_
  refine wk_get C huX0_begin_0 (hXS4 _ _ (hXS2 _ _ (hXS1 _ _ hl0A))).1 (fun cy => wAt_0 cy _ (hXS4 _ _ (hXS2 _ _ (hXS1 _ _ hl0A))).2) rfl 3 (by decide) (List.mem_of_getElem? (i := 4) rfl) rfl (congrArg some (congrArg va_rf (wf_Claim_row hWS4 (hXS4 _ _ (hXS2 _ _ (hXS1 _ _ hl0A)))).1)) dX0_begin_16 ?_
  refine wk_aload C dX0_begin_19 rfl ?_
  obtain ⟨k8, n9, hk8, hn9, h⟩ := h
  refine wk_callV C hR (As := [.ref l4A]) (cnt := 1) (tX9_copy (l := l) hWS4 (wf_Claim_row hWS4 (hXS4 _ _ (hXS2 _ _ (hXS1 _ _ hl0A)))).2 (hXS4 _ _ (hXS2 _ _ (hXS1 _ _ hl4A))) h) rfl (wkGoodV (List.mem_of_getElem? (i := 5) rfl) (List.mem_of_getElem? (i := 6) rfl) (List.mem_of_getElem? (i := 7) rfl) (List.mem_of_getElem? (i := 8) rfl) hbX0_begin_X9_copy gdX9_copy) (Nat.le_trans (by decide : 1 + 1 ≤ 2) hd) (by decide) (wf_Claim_row hWS4 (hXS4 _ _ (hXS2 _ _ (hXS1 _ _ hl0A)))).2.1 (fun cy => wAt_9 cy _ (wf_Claim_row hWS4 (hXS4 _ _ (hXS2 _ _ (hXS1 _ _ hl0A)))).2.2) rfl ⟨by decide, by decide, by decide +kernel⟩ rfl rfl (Nat.le_of_ble_eq_true rfl) hk8 hn9 dX0_begin_21 (fun v' S6 hp => ?_)
  obtain ⟨v5, rfl, h, hWS6, hXS6⟩ := hp
  exact E _ _ _ _ _ hk8 hn9 dX0_begin_24 ⟨(), rfl, h, hWS6, (wkExt.tr (wkExt.tr (wkExt.tr (wkExt.tr hE hXS1) hXS2) hXS4) hXS6)⟩
def wvX1_isBroken : List Cond := .code yX1_isBroken cX1_isBroken 6 (some .boolean) :: (([.methodLink RX1 79 yX3_at, .instanceMethod yX3_at, .selects RX3 yX3_at yX3_at, .initialized RX3, .methodLink RX1 83 Lib.Math.abs.name, .static Lib.Math.abs.name, .initialized "java/lang/Math", .code Lib.Math.abs.name Lib.Math.abs.code 1 (some .int), .fieldLink RX1 44 "Witnessworks$Clauses" "depth" "I", .fieldLink RX1 47 "Witnessworks$Clauses" "ones" "I", .static yX11_has, .initialized RX11] : List Cond) ++ ((wsX10) ++ (wvX3_at ++ (wvX11_has))))
theorem huX1_isBroken_1 : ∀ w ∈ u_ws RX1 TX1 7, w ∈ wvX1_isBroken := fun w h => List.mem_cons_of_mem _ (List.mem_append_right _ (List.mem_append_left _ h))
theorem hbX1_isBroken_X3_at : ∀ w ∈ wvX3_at, w ∈ wvX1_isBroken := fun w h => List.mem_cons_of_mem _ (List.mem_append_right _ (List.mem_append_right _ (List.mem_append_left _ h)))
theorem hbX1_isBroken_X11_has : ∀ w ∈ wvX11_has, w ∈ wvX1_isBroken := fun w h => List.mem_cons_of_mem _ (List.mem_append_right _ (List.mem_append_right _ (List.mem_append_right _ h)))
theorem gdX1_isBroken : ∀ w ∈ wvX1_isBroken, wkGd w := wkGdC rfl (wkGdA (wkGdL (by decide +kernel)) (wkGdA gdX1 (wkGdA gdX3_at gdX11_has)))
def rX1_isBroken_b0 (F : Nat) (rec : Nat → Nat → Nat → Int32 → Int32 → wPS → (Int32 → wPS → Prop) → Prop) (l0A : Nat) (l1A : Nat) (l2I : Int32) (l3I : Int32) (S : wPS) (Φ : (Int32 → wPS → Prop)) : Prop :=
  if (3 : Int32) ≤ l3I then (Φ (1 : Int32) S) else (rX3_at F l1A l2I l3I S fun v2 S3 => wkLt (((if 0 ≤ v2 then v2 else 0 - v2) - (1 : Int32))) fun x7 => if v2 = 0 then (wkLt (l3I + (1 : Int32)) fun x9 => rec 0 l0A l1A l2I x9 S3 Φ) else (if (gClauses_depth S3 l0A) ≤ x7 then (Φ (0 : Int32) S3) else (rX11_has F (gClauses_ones S3 l0A) x7 S3 fun v11 S12 => if v2 ≤ 0 then (if v11 = (0 : Int32) then (Φ (0 : Int32) S12) else (wkLt (l3I + (1 : Int32)) fun x18 => rec 0 l0A l1A l2I x18 S12 Φ)) else (if v11 = (1 : Int32) then (Φ (0 : Int32) S12) else (wkLt (l3I + (1 : Int32)) fun x20 => rec 0 l0A l1A l2I x20 S12 Φ)))))
def rX1_isBroken_go (F : Nat) : Nat → Nat → Nat → Nat → Int32 → Int32 → wPS → (Int32 → wPS → Prop) → Prop
  | 0, _, _, _, _, _, _, _ => False
  | k' + 1, lab, l0A, l1A, l2I, l3I, S, Φ => if lab = 0 then rX1_isBroken_b0 F (rX1_isBroken_go F k') l0A l1A l2I l3I S Φ else False
def rX1_isBroken_s (F : Nat) (rec : Nat → Nat → Nat → Int32 → Int32 → wPS → (Int32 → wPS → Prop) → Prop) (l0A : Nat) (l1A : Nat) (l2I : Int32) (S : wPS) (Φ : (Int32 → wPS → Prop)) : Prop :=
  rec 0 l0A l1A l2I (0 : Int32) S Φ
def rX1_isBroken (F : Nat) (l0A : Nat) (l1A : Nat) (l2I : Int32) (S : wPS) (Φ : (Int32 → wPS → Prop)) : Prop := rX1_isBroken_s F (rX1_isBroken_go F F) l0A l1A l2I S Φ
set_option maxHeartbeats 4000000 in
set_option maxRecDepth 100000 in
theorem tX1_isBroken_go {l : Launch} {X : wkX} {d F : Nat} {S0 : wPS} {Φ : (Int32 → wPS → Prop)} (C : wkC X cX1_isBroken RX1 6 wvX1_isBroken) (hR : wkRm X d 0 0) (hd : 1 ≤ d) (E : wkEnd l X cX1_isBroken 6 (some .boolean) 0 0 (fun v' S'' => ∃ v : Int32, v' = some (.int v) ∧ Φ v S'' ∧ wkWF S'' ∧ wkExt S0 S'')) : ∀ k' : Nat, (∀ (l0A : Nat) (l1A : Nat) (l2I : Int32) (l3I : Int32) (S : wPS), wkWF S → wkExt S0 S → wkIs S l0A 1 → wkIs S l1A 3 → rX1_isBroken_go F k' 0 l0A l1A l2I l3I S Φ → wkGo l X 6 0 0 2 S [some (.ref l0A), some (.ref l1A), some (.int l2I), some (.int l3I), none, none] []) := by
  intro k'
  induction k' with
  | zero => exact fun l0A l1A l2I l3I S hW hE hl0A hl1A h => h.elim
  | succ k' ih =>
    · intro l0A l1A l2I l3I S hW hE hl0A hl1A h
      have h : rX1_isBroken_b0 F (rX1_isBroken_go F k') l0A l1A l2I l3I S Φ := by
        rw [rX1_isBroken_go, if_pos (rfl : (0 : Nat) = 0)] at h
        exact h
      unfold rX1_isBroken_b0 at h
      refine wk_iload_n C dX1_isBroken_2 rfl rfl ?_
      refine wk_iconst C (v := 3) dX1_isBroken_3 (by decide) ?_
      refine wk_icmp_ge C (tgt := 68) dX1_isBroken_4 (by decide) (fun c1 => ?_) (fun c1 => ?_)
      · rw [if_pos c1] at h
        refine wk_iconst C (v := 1) dX1_isBroken_68 (by decide) ?_
        exact E _ _ _ _ _ _ (Nat.le_refl 0) (Nat.le_refl 0) dX1_isBroken_69 rfl ⟨(1 : Int32), rfl, h, hW, hE⟩
      · rw [if_neg c1] at h
        refine wk_aload_n C dX1_isBroken_7 rfl rfl ?_
        refine wk_iload_n C dX1_isBroken_8 rfl rfl ?_
        refine wk_iload_n C dX1_isBroken_9 rfl rfl ?_
        refine wk_callV C hR (As := [.int l2I, .int l3I]) (cnt := 2) (tX3_at (l := l) hW hl1A h) rfl (wkGoodV (List.mem_of_getElem? (i := 1) rfl) (List.mem_of_getElem? (i := 2) rfl) (List.mem_of_getElem? (i := 3) rfl) (List.mem_of_getElem? (i := 4) rfl) hbX1_isBroken_X3_at gdX3_at) (Nat.le_trans (by decide : 0 + 1 ≤ 1) hd) (by decide) hl1A.1 (fun cy => wAt_3 cy _ hl1A.2) rfl ⟨by decide, by decide, by decide +kernel⟩ rfl rfl (Nat.le_of_ble_eq_true rfl) (Nat.le_refl 0) (Nat.le_refl 0) dX1_isBroken_10 (fun v' S3 hp => ?_)
        obtain ⟨v2, rfl, h, hWS3, hXS3⟩ := hp
        refine wk_istore C (lv' := [some (.ref l0A), some (.ref l1A), some (.int l2I), some (.int l3I), some (.int v2), none]) dX1_isBroken_13 (by decide) rfl ?_
        refine wk_iload C dX1_isBroken_15 rfl ?_
        refine wk_mabs C hR (List.mem_of_getElem? (i := 5) rfl) (List.mem_of_getElem? (i := 6) rfl) (List.mem_of_getElem? (i := 7) rfl) (List.mem_of_getElem? (i := 8) rfl) (Nat.le_trans (by decide) hd) (Nat.le_refl 0) (Nat.le_refl 0) (Nat.le_of_ble_eq_true rfl) rfl dX1_isBroken_17 ?_
        refine wk_iconst C (v := 1) dX1_isBroken_20 (by decide) ?_
        refine wk_isub C dX1_isBroken_21 rfl ?_
        obtain ⟨x7, ex7, h⟩ := wkLt_some h
        refine wk_topi ex7 ?_
        refine wk_istore C (lv' := [some (.ref l0A), some (.ref l1A), some (.int l2I), some (.int l3I), some (.int v2), some (.int x7)]) dX1_isBroken_22 (by decide) rfl ?_
        refine wk_iload C dX1_isBroken_24 rfl ?_
        refine wk_if_eq C (tgt := 62) dX1_isBroken_26 (by decide) (fun c8 => ?_) (fun c8 => ?_)
        · rw [if_pos c8] at h
          obtain ⟨x9, ex9, h⟩ := wkLt_some h
          refine wk_iinc C (lv' := [some (.ref l0A), some (.ref l1A), some (.int l2I), some (.int x9), some (.int v2), some (.int x7)]) dX1_isBroken_62 rfl (by rw [ex9]; rfl) (by decide) rfl ?_
          refine wk_goto C (tgt := 2) dX1_isBroken_65 (by decide) ?_
          exact wk_forget (lv' := [some (.ref l0A), some (.ref l1A), some (.int l2I), some (.int x9), none, none]) (wkLs.le ⟨rfl, rfl, rfl, rfl, trivial⟩) (ih _ _ _ _ _ hWS3 (wkExt.tr hE hXS3) (hXS3 _ _ hl0A) (hXS3 _ _ hl1A) h)
        · rw [if_neg c8] at h
          refine wk_iload C dX1_isBroken_29 rfl ?_
          refine wk_aload_n C dX1_isBroken_31 rfl rfl ?_
          refine wk_get C (v := .int (gClauses_depth S3 l0A)) huX1_isBroken_1 (hXS3 _ _ hl0A).1 (fun cy => wAt_1 cy _ (hXS3 _ _ hl0A).2) rfl 4 (by decide) (List.mem_of_getElem? (i := 9) rfl) rfl rfl dX1_isBroken_32 ?_
          refine wk_icmp_ge C (tgt := 60) dX1_isBroken_35 (by decide) (fun c10 => ?_) (fun c10 => ?_)
          · rw [if_pos c10] at h
            refine wk_iconst C (v := 0) dX1_isBroken_60 (by decide) ?_
            exact E _ _ _ _ _ _ (Nat.le_refl 0) (Nat.le_refl 0) dX1_isBroken_61 rfl ⟨(0 : Int32), rfl, h, hWS3, (wkExt.tr hE hXS3)⟩
          · rw [if_neg c10] at h
            refine wk_aload_n C dX1_isBroken_38 rfl rfl ?_
            refine wk_get C (v := .int (gClauses_ones S3 l0A)) huX1_isBroken_1 (hXS3 _ _ hl0A).1 (fun cy => wAt_1 cy _ (hXS3 _ _ hl0A).2) rfl 5 (by decide) (List.mem_of_getElem? (i := 10) rfl) rfl rfl dX1_isBroken_39 ?_
            refine wk_iload C dX1_isBroken_42 rfl ?_
            refine wk_callN C hR (y := yX11_has) (host := "Witnessworks") (As := [.int (gClauses_ones S3 l0A), .int x7]) (cnt := 2) (tX11_has (l := l) hWS3  h) rfl (fun w h => ⟨hbX1_isBroken_X11_has w h, gdX11_has w h⟩) (by decide +kernel) (List.mem_of_getElem? (i := 11) rfl) (List.mem_of_getElem? (i := 12) rfl) (Nat.le_trans (by decide : 0 + 1 ≤ 1) hd) (by decide) ⟨by decide, by decide, by decide +kernel⟩ rfl rfl (Nat.le_of_ble_eq_true rfl) (Nat.le_refl 0) (Nat.le_refl 0) dX1_isBroken_44 (fun v' S12 hp => ?_)
            obtain ⟨v11, rfl, h, hWS12, hXS12⟩ := hp
            refine wk_iload C dX1_isBroken_47 rfl ?_
            refine wk_if_le C (tgt := 56) dX1_isBroken_49 (by decide) (fun c16 => ?_) (fun c16 => ?_)
            · rw [if_pos c16] at h
              refine wk_iconst C (v := 0) dX1_isBroken_56 (by decide) ?_
              refine wk_icmp_ne C (tgt := 62) dX1_isBroken_57 (by decide) (fun c17 => ?_) (fun c17 => ?_)
              · rw [if_neg c17] at h
                obtain ⟨x18, ex18, h⟩ := wkLt_some h
                refine wk_iinc C (lv' := [some (.ref l0A), some (.ref l1A), some (.int l2I), some (.int x18), some (.int v2), some (.int x7)]) dX1_isBroken_62 rfl (by rw [ex18]; rfl) (by decide) rfl ?_
                refine wk_goto C (tgt := 2) dX1_isBroken_65 (by decide) ?_
                exact wk_forget (lv' := [some (.ref l0A), some (.ref l1A), some (.int l2I), some (.int x18), none, none]) (wkLs.le ⟨rfl, rfl, rfl, rfl, trivial⟩) (ih _ _ _ _ _ hWS12 (wkExt.tr (wkExt.tr hE hXS3) hXS12) (hXS12 _ _ (hXS3 _ _ hl0A)) (hXS12 _ _ (hXS3 _ _ hl1A)) h)
              · rw [if_pos c17] at h
                refine wk_iconst C (v := 0) dX1_isBroken_60 (by decide) ?_
                exact E _ _ _ _ _ _ (Nat.le_refl 0) (Nat.le_refl 0) dX1_isBroken_61 rfl ⟨(0 : Int32), rfl, h, hWS12, (wkExt.tr (wkExt.tr hE hXS3) hXS12)⟩
            · rw [if_neg c16] at h
              refine wk_iconst C (v := 1) dX1_isBroken_52 (by decide) ?_
              refine wk_goto C (tgt := 57) dX1_isBroken_53 (by decide) ?_
              refine wk_icmp_ne C (tgt := 62) dX1_isBroken_57 (by decide) (fun c19 => ?_) (fun c19 => ?_)
              · rw [if_neg c19] at h
                obtain ⟨x20, ex20, h⟩ := wkLt_some h
                refine wk_iinc C (lv' := [some (.ref l0A), some (.ref l1A), some (.int l2I), some (.int x20), some (.int v2), some (.int x7)]) dX1_isBroken_62 rfl (by rw [ex20]; rfl) (by decide) rfl ?_
                refine wk_goto C (tgt := 2) dX1_isBroken_65 (by decide) ?_
                exact wk_forget (lv' := [some (.ref l0A), some (.ref l1A), some (.int l2I), some (.int x20), none, none]) (wkLs.le ⟨rfl, rfl, rfl, rfl, trivial⟩) (ih _ _ _ _ _ hWS12 (wkExt.tr (wkExt.tr hE hXS3) hXS12) (hXS12 _ _ (hXS3 _ _ hl0A)) (hXS12 _ _ (hXS3 _ _ hl1A)) h)
              · rw [if_pos c19] at h
                refine wk_iconst C (v := 0) dX1_isBroken_60 (by decide) ?_
                exact E _ _ _ _ _ _ (Nat.le_refl 0) (Nat.le_refl 0) dX1_isBroken_61 rfl ⟨(0 : Int32), rfl, h, hWS12, (wkExt.tr (wkExt.tr hE hXS3) hXS12)⟩
set_option maxHeartbeats 4000000 in
set_option maxRecDepth 100000 in
theorem tX1_isBroken {l : Launch} {g : wkG} {F : Nat}  {S : wPS} {l0A : Nat} {l1A : Nat} {l2I : Int32} {Φ : (Int32 → wPS → Prop)} (hW : wkWF S) (hl0A : wkIs S l0A 1) (hl1A : wkIs S l1A 3) (h : rX1_isBroken F l0A l1A l2I S Φ) : wkMet l g yX1_isBroken wvX1_isBroken 1 0 0 [.ref l0A, .ref l1A, .int l2I] S (fun v' S'' => ∃ v : Int32, v' = some (.int v) ∧ Φ v S'' ∧ wkWF S'' ∧ wkExt S S'') := by
  refine wkMet_of (ret := (some .boolean)) (by decide) rfl (Nat.le_of_ble_eq_true rfl) (fun X hg C hR E => ?_)
  subst hg
  have hE : wkExt S S := wkExt.rf
  have hd : 1 ≤ 1 := Nat.le_refl _
  show wkGo l X 6 0 0 0 S [some (.ref l0A), some (.ref l1A), some (.int l2I), none, none, none] []
  have ih := tX1_isBroken_go (F := F) C hR hd E F
  have h : rX1_isBroken_s F (rX1_isBroken_go F F) l0A l1A l2I S Φ := h
  unfold rX1_isBroken_s at h
  refine wk_iconst C (v := 0) dX1_isBroken_0 (by decide) ?_
  refine wk_istore_n C (lv' := [some (.ref l0A), some (.ref l1A), some (.int l2I), some (.int (0 : Int32)), none, none]) dX1_isBroken_1 rfl (by decide) rfl ?_
  exact wk_forget (lv' := [some (.ref l0A), some (.ref l1A), some (.int l2I), some (.int (0 : Int32)), none, none]) (wkLs.le ⟨rfl, rfl, rfl, rfl, trivial⟩) (ih _ _ _ _ _ hW hE hl0A hl1A h)
def wvX1_goBack : List Cond := .code yX1_goBack cX1_goBack 1 none :: (([.fieldLink RX1 44 "Witnessworks$Clauses" "depth" "I", .fieldLink RX1 47 "Witnessworks$Clauses" "ones" "I", .fieldLink RX1 88 "Witnessworks$Clauses" "isAtEnd" "Z", .static yX11_has, .initialized RX11, .methodLink RX1 111 yX1_deriveAt, .instanceMethod yX1_deriveAt, .selects RX1 yX1_deriveAt yX1_deriveAt, .initialized RX1] : List Cond) ++ ((wsX10) ++ (wvX11_has ++ (wvX1_deriveAt))))
theorem huX1_goBack_1 : ∀ w ∈ u_ws RX1 TX1 7, w ∈ wvX1_goBack := fun w h => List.mem_cons_of_mem _ (List.mem_append_right _ (List.mem_append_left _ h))
theorem hbX1_goBack_X11_has : ∀ w ∈ wvX11_has, w ∈ wvX1_goBack := fun w h => List.mem_cons_of_mem _ (List.mem_append_right _ (List.mem_append_right _ (List.mem_append_left _ h)))
theorem hbX1_goBack_X1_deriveAt : ∀ w ∈ wvX1_deriveAt, w ∈ wvX1_goBack := fun w h => List.mem_cons_of_mem _ (List.mem_append_right _ (List.mem_append_right _ (List.mem_append_right _ h)))
theorem gdX1_goBack : ∀ w ∈ wvX1_goBack, wkGd w := wkGdC rfl (wkGdA (wkGdL (by decide +kernel)) (wkGdA gdX1 (wkGdA gdX11_has gdX1_deriveAt)))
def rX1_goBack_b0 (F : Nat) (rec : Nat → Nat → wPS → (Unit → wPS → Prop) → Prop) (l0A : Nat) (S : wPS) (Φ : (Unit → wPS → Prop)) : Prop :=
  if (gClauses_depth S l0A) ≤ 0 then (if (gClauses_depth S l0A) = 0 then (wkLt (wu_Clauses_isAtEnd S l0A (1 : Int32)) fun S4 => Φ () S4) else (wkLt (wu_Clauses_ones S l0A ((gClauses_ones S l0A) ||| ((1 : Int32) <<< (((gClauses_depth S l0A) - (1 : Int32)) &&& 31)))) fun S3 => Φ () S3)) else (rX11_has F (gClauses_ones S l0A) ((gClauses_depth S l0A) - (1 : Int32)) S fun v5 S6 => if v5 = 0 then (if (gClauses_depth S6 l0A) = 0 then (wkLt (wu_Clauses_isAtEnd S6 l0A (1 : Int32)) fun S13 => Φ () S13) else (wkLt (wu_Clauses_ones S6 l0A ((gClauses_ones S6 l0A) ||| ((1 : Int32) <<< (((gClauses_depth S6 l0A) - (1 : Int32)) &&& 31)))) fun S12 => Φ () S12)) else (wkLt (wu_Clauses_depth S6 l0A ((gClauses_depth S6 l0A) - (1 : Int32))) fun S14 => wkLt (wu_Clauses_ones S14 l0A ((gClauses_ones S14 l0A) &&& (((1 : Int32) <<< ((gClauses_depth S14 l0A) &&& 31)) ^^^ (-1 : Int32)))) fun S15 => rX1_deriveAt F l0A (gClauses_depth S15 l0A) S15 fun v16 S17 => rec 0 l0A S17 Φ))
def rX1_goBack_go (F : Nat) : Nat → Nat → Nat → wPS → (Unit → wPS → Prop) → Prop
  | 0, _, _, _, _ => False
  | k' + 1, lab, l0A, S, Φ => if lab = 0 then rX1_goBack_b0 F (rX1_goBack_go F k') l0A S Φ else False
def rX1_goBack (F : Nat) (l0A : Nat) (S : wPS) (Φ : (Unit → wPS → Prop)) : Prop := rX1_goBack_go F F 0 l0A S Φ
set_option maxHeartbeats 4000000 in
set_option maxRecDepth 100000 in
theorem tX1_goBack_go {l : Launch} {X : wkX} {d F : Nat} {S0 : wPS} {Φ : (Unit → wPS → Prop)} (C : wkC X cX1_goBack RX1 1 wvX1_goBack) (hR : wkRm X d 0 0) (hd : 2 ≤ d) (E : wkEnd l X cX1_goBack 1 none 0 0 (fun v' S'' => ∃ v : Unit, v' = none ∧ Φ v S'' ∧ wkWF S'' ∧ wkExt S0 S'')) : ∀ k' : Nat, (∀ (l0A : Nat) (S : wPS), wkWF S → wkExt S0 S → wkIs S l0A 1 → rX1_goBack_go F k' 0 l0A S Φ → wkGo l X 1 0 0 0 S [some (.ref l0A)] []) := by
  intro k'
  induction k' with
  | zero => exact fun l0A S hW hE hl0A h => h.elim
  | succ k' ih =>
    · intro l0A S hW hE hl0A h
      have h : rX1_goBack_b0 F (rX1_goBack_go F k') l0A S Φ := by
        rw [rX1_goBack_go, if_pos (rfl : (0 : Nat) = 0)] at h
        exact h
      unfold rX1_goBack_b0 at h
      refine wk_aload_n C dX1_goBack_0 rfl rfl ?_
      refine wk_get C (v := .int (gClauses_depth S l0A)) huX1_goBack_1 hl0A.1 (fun cy => wAt_1 cy _ hl0A.2) rfl 4 (by decide) (List.mem_of_getElem? (i := 1) rfl) rfl rfl dX1_goBack_1 ?_
      refine wk_if_le C (tgt := 61) dX1_goBack_4 (by decide) (fun c1 => ?_) (fun c1 => ?_)
      · rw [if_pos c1] at h
        refine wk_aload_n C dX1_goBack_61 rfl rfl ?_
        refine wk_get C (v := .int (gClauses_depth S l0A)) huX1_goBack_1 hl0A.1 (fun cy => wAt_1 cy _ hl0A.2) rfl 4 (by decide) (List.mem_of_getElem? (i := 1) rfl) rfl rfl dX1_goBack_62 ?_
        refine wk_if_ne C (tgt := 76) dX1_goBack_65 (by decide) (fun c2 => ?_) (fun c2 => ?_)
        · rw [if_neg c2] at h
          refine wk_aload_n C dX1_goBack_76 rfl rfl ?_
          refine wk_dup C dX1_goBack_77 rfl ?_
          refine wk_get C (v := .int (gClauses_ones S l0A)) huX1_goBack_1 hl0A.1 (fun cy => wAt_1 cy _ hl0A.2) rfl 5 (by decide) (List.mem_of_getElem? (i := 2) rfl) rfl rfl dX1_goBack_78 ?_
          refine wk_iconst C (v := 1) dX1_goBack_81 (by decide) ?_
          refine wk_aload_n C dX1_goBack_82 rfl rfl ?_
          refine wk_get C (v := .int (gClauses_depth S l0A)) huX1_goBack_1 hl0A.1 (fun cy => wAt_1 cy _ hl0A.2) rfl 4 (by decide) (List.mem_of_getElem? (i := 1) rfl) rfl rfl dX1_goBack_83 ?_
          refine wk_iconst C (v := 1) dX1_goBack_86 (by decide) ?_
          refine wk_isub C dX1_goBack_87 rfl ?_
          refine wk_ishl C dX1_goBack_88 rfl ?_
          refine wk_ior C dX1_goBack_89 rfl ?_
          obtain ⟨S3, eS3, h⟩ := wkLt_some h
          refine wk_put C (S' := S3) huX1_goBack_1 hl0A.1 (fun cy => wAt_1 cy _ hl0A.2) rfl 5 (by decide) (List.mem_of_getElem? (i := 2) rfl) rfl tyX1_ok nmX1 rfl (ty := .int) rfl rfl rfl (by show 5 < 7; decide) (fun cy b => by rw [eS3]; exact wSt_1_5 cy _ hl0A.2 _ b) (by rw [eS3]) dX1_goBack_90 ?_
          have hWS3 : wkWF S3 := by rw [eS3]; exact hW
          have hXS3 : wkExt S S3 := by rw [eS3]; exact wkExt.rf
          exact E _ _ _ _ _ (Nat.le_refl 0) (Nat.le_refl 0) dX1_goBack_93 ⟨(), rfl, h, hWS3, (wkExt.tr hE hXS3)⟩
        · rw [if_pos c2] at h
          refine wk_aload_n C dX1_goBack_68 rfl rfl ?_
          refine wk_iconst C (v := 1) dX1_goBack_69 (by decide) ?_
          obtain ⟨S4, eS4, h⟩ := wkLt_some h
          refine wk_put C (S' := S4) huX1_goBack_1 hl0A.1 (fun cy => wAt_1 cy _ hl0A.2) rfl 6 (by decide) (List.mem_of_getElem? (i := 3) rfl) rfl tyX1_ok nmX1 rfl (ty := .boolean) rfl rfl rfl (by show 6 < 7; decide) (fun cy b => by rw [eS4]; exact wSt_1_6 cy _ hl0A.2 _ b) (by rw [eS4]) dX1_goBack_70 ?_
          have hWS4 : wkWF S4 := by rw [eS4]; exact hW
          have hXS4 : wkExt S S4 := by rw [eS4]; exact wkExt.rf
          refine wk_goto C (tgt := 93) dX1_goBack_73 (by decide) ?_
          exact E _ _ _ _ _ (Nat.le_refl 0) (Nat.le_refl 0) dX1_goBack_93 ⟨(), rfl, h, hWS4, (wkExt.tr hE hXS4)⟩
      · rw [if_neg c1] at h
        refine wk_aload_n C dX1_goBack_7 rfl rfl ?_
        refine wk_get C (v := .int (gClauses_ones S l0A)) huX1_goBack_1 hl0A.1 (fun cy => wAt_1 cy _ hl0A.2) rfl 5 (by decide) (List.mem_of_getElem? (i := 2) rfl) rfl rfl dX1_goBack_8 ?_
        refine wk_aload_n C dX1_goBack_11 rfl rfl ?_
        refine wk_get C (v := .int (gClauses_depth S l0A)) huX1_goBack_1 hl0A.1 (fun cy => wAt_1 cy _ hl0A.2) rfl 4 (by decide) (List.mem_of_getElem? (i := 1) rfl) rfl rfl dX1_goBack_12 ?_
        refine wk_iconst C (v := 1) dX1_goBack_15 (by decide) ?_
        refine wk_isub C dX1_goBack_16 rfl ?_
        refine wk_callN C hR (y := yX11_has) (host := "Witnessworks") (As := [.int (gClauses_ones S l0A), .int ((gClauses_depth S l0A) - (1 : Int32))]) (cnt := 2) (tX11_has (l := l) hW  h) rfl (fun w h => ⟨hbX1_goBack_X11_has w h, gdX11_has w h⟩) (by decide +kernel) (List.mem_of_getElem? (i := 4) rfl) (List.mem_of_getElem? (i := 5) rfl) (Nat.le_trans (by decide : 0 + 1 ≤ 2) hd) (by decide) ⟨by decide, by decide, by decide +kernel⟩ rfl rfl (Nat.le_of_ble_eq_true rfl) (Nat.le_refl 0) (Nat.le_refl 0) dX1_goBack_17 (fun v' S6 hp => ?_)
        obtain ⟨v5, rfl, h, hWS6, hXS6⟩ := hp
        refine wk_if_eq C (tgt := 61) dX1_goBack_20 (by decide) (fun c10 => ?_) (fun c10 => ?_)
        · rw [if_pos c10] at h
          refine wk_aload_n C dX1_goBack_61 rfl rfl ?_
          refine wk_get C (v := .int (gClauses_depth S6 l0A)) huX1_goBack_1 (hXS6 _ _ hl0A).1 (fun cy => wAt_1 cy _ (hXS6 _ _ hl0A).2) rfl 4 (by decide) (List.mem_of_getElem? (i := 1) rfl) rfl rfl dX1_goBack_62 ?_
          refine wk_if_ne C (tgt := 76) dX1_goBack_65 (by decide) (fun c11 => ?_) (fun c11 => ?_)
          · rw [if_neg c11] at h
            refine wk_aload_n C dX1_goBack_76 rfl rfl ?_
            refine wk_dup C dX1_goBack_77 rfl ?_
            refine wk_get C (v := .int (gClauses_ones S6 l0A)) huX1_goBack_1 (hXS6 _ _ hl0A).1 (fun cy => wAt_1 cy _ (hXS6 _ _ hl0A).2) rfl 5 (by decide) (List.mem_of_getElem? (i := 2) rfl) rfl rfl dX1_goBack_78 ?_
            refine wk_iconst C (v := 1) dX1_goBack_81 (by decide) ?_
            refine wk_aload_n C dX1_goBack_82 rfl rfl ?_
            refine wk_get C (v := .int (gClauses_depth S6 l0A)) huX1_goBack_1 (hXS6 _ _ hl0A).1 (fun cy => wAt_1 cy _ (hXS6 _ _ hl0A).2) rfl 4 (by decide) (List.mem_of_getElem? (i := 1) rfl) rfl rfl dX1_goBack_83 ?_
            refine wk_iconst C (v := 1) dX1_goBack_86 (by decide) ?_
            refine wk_isub C dX1_goBack_87 rfl ?_
            refine wk_ishl C dX1_goBack_88 rfl ?_
            refine wk_ior C dX1_goBack_89 rfl ?_
            obtain ⟨S12, eS12, h⟩ := wkLt_some h
            refine wk_put C (S' := S12) huX1_goBack_1 (hXS6 _ _ hl0A).1 (fun cy => wAt_1 cy _ (hXS6 _ _ hl0A).2) rfl 5 (by decide) (List.mem_of_getElem? (i := 2) rfl) rfl tyX1_ok nmX1 rfl (ty := .int) rfl rfl rfl (by show 5 < 7; decide) (fun cy b => by rw [eS12]; exact wSt_1_5 cy _ (hXS6 _ _ hl0A).2 _ b) (by rw [eS12]) dX1_goBack_90 ?_
            have hWS12 : wkWF S12 := by rw [eS12]; exact hWS6
            have hXS12 : wkExt S6 S12 := by rw [eS12]; exact wkExt.rf
            exact E _ _ _ _ _ (Nat.le_refl 0) (Nat.le_refl 0) dX1_goBack_93 ⟨(), rfl, h, hWS12, (wkExt.tr (wkExt.tr hE hXS6) hXS12)⟩
          · rw [if_pos c11] at h
            refine wk_aload_n C dX1_goBack_68 rfl rfl ?_
            refine wk_iconst C (v := 1) dX1_goBack_69 (by decide) ?_
            obtain ⟨S13, eS13, h⟩ := wkLt_some h
            refine wk_put C (S' := S13) huX1_goBack_1 (hXS6 _ _ hl0A).1 (fun cy => wAt_1 cy _ (hXS6 _ _ hl0A).2) rfl 6 (by decide) (List.mem_of_getElem? (i := 3) rfl) rfl tyX1_ok nmX1 rfl (ty := .boolean) rfl rfl rfl (by show 6 < 7; decide) (fun cy b => by rw [eS13]; exact wSt_1_6 cy _ (hXS6 _ _ hl0A).2 _ b) (by rw [eS13]) dX1_goBack_70 ?_
            have hWS13 : wkWF S13 := by rw [eS13]; exact hWS6
            have hXS13 : wkExt S6 S13 := by rw [eS13]; exact wkExt.rf
            refine wk_goto C (tgt := 93) dX1_goBack_73 (by decide) ?_
            exact E _ _ _ _ _ (Nat.le_refl 0) (Nat.le_refl 0) dX1_goBack_93 ⟨(), rfl, h, hWS13, (wkExt.tr (wkExt.tr hE hXS6) hXS13)⟩
        · rw [if_neg c10] at h
          refine wk_aload_n C dX1_goBack_23 rfl rfl ?_
          refine wk_dup C dX1_goBack_24 rfl ?_
          refine wk_get C (v := .int (gClauses_depth S6 l0A)) huX1_goBack_1 (hXS6 _ _ hl0A).1 (fun cy => wAt_1 cy _ (hXS6 _ _ hl0A).2) rfl 4 (by decide) (List.mem_of_getElem? (i := 1) rfl) rfl rfl dX1_goBack_25 ?_
          refine wk_iconst C (v := 1) dX1_goBack_28 (by decide) ?_
          refine wk_isub C dX1_goBack_29 rfl ?_
          obtain ⟨S14, eS14, h⟩ := wkLt_some h
          refine wk_put C (S' := S14) huX1_goBack_1 (hXS6 _ _ hl0A).1 (fun cy => wAt_1 cy _ (hXS6 _ _ hl0A).2) rfl 4 (by decide) (List.mem_of_getElem? (i := 1) rfl) rfl tyX1_ok nmX1 rfl (ty := .int) rfl rfl rfl (by show 4 < 7; decide) (fun cy b => by rw [eS14]; exact wSt_1_4 cy _ (hXS6 _ _ hl0A).2 _ b) (by rw [eS14]) dX1_goBack_30 ?_
          have hWS14 : wkWF S14 := by rw [eS14]; exact hWS6
          have hXS14 : wkExt S6 S14 := by rw [eS14]; exact wkExt.rf
          refine wk_aload_n C dX1_goBack_33 rfl rfl ?_
          refine wk_dup C dX1_goBack_34 rfl ?_
          refine wk_get C (v := .int (gClauses_ones S14 l0A)) huX1_goBack_1 (hXS14 _ _ (hXS6 _ _ hl0A)).1 (fun cy => wAt_1 cy _ (hXS14 _ _ (hXS6 _ _ hl0A)).2) rfl 5 (by decide) (List.mem_of_getElem? (i := 2) rfl) rfl rfl dX1_goBack_35 ?_
          refine wk_iconst C (v := 1) dX1_goBack_38 (by decide) ?_
          refine wk_aload_n C dX1_goBack_39 rfl rfl ?_
          refine wk_get C (v := .int (gClauses_depth S14 l0A)) huX1_goBack_1 (hXS14 _ _ (hXS6 _ _ hl0A)).1 (fun cy => wAt_1 cy _ (hXS14 _ _ (hXS6 _ _ hl0A)).2) rfl 4 (by decide) (List.mem_of_getElem? (i := 1) rfl) rfl rfl dX1_goBack_40 ?_
          refine wk_ishl C dX1_goBack_43 rfl ?_
          refine wk_iconst C (v := (-1)) dX1_goBack_44 (by decide) ?_
          refine wk_ixor C dX1_goBack_45 rfl ?_
          refine wk_iand C dX1_goBack_46 rfl ?_
          obtain ⟨S15, eS15, h⟩ := wkLt_some h
          refine wk_put C (S' := S15) huX1_goBack_1 (hXS14 _ _ (hXS6 _ _ hl0A)).1 (fun cy => wAt_1 cy _ (hXS14 _ _ (hXS6 _ _ hl0A)).2) rfl 5 (by decide) (List.mem_of_getElem? (i := 2) rfl) rfl tyX1_ok nmX1 rfl (ty := .int) rfl rfl rfl (by show 5 < 7; decide) (fun cy b => by rw [eS15]; exact wSt_1_5 cy _ (hXS14 _ _ (hXS6 _ _ hl0A)).2 _ b) (by rw [eS15]) dX1_goBack_47 ?_
          have hWS15 : wkWF S15 := by rw [eS15]; exact hWS14
          have hXS15 : wkExt S14 S15 := by rw [eS15]; exact wkExt.rf
          refine wk_aload_n C dX1_goBack_50 rfl rfl ?_
          refine wk_aload_n C dX1_goBack_51 rfl rfl ?_
          refine wk_get C (v := .int (gClauses_depth S15 l0A)) huX1_goBack_1 (hXS15 _ _ (hXS14 _ _ (hXS6 _ _ hl0A))).1 (fun cy => wAt_1 cy _ (hXS15 _ _ (hXS14 _ _ (hXS6 _ _ hl0A))).2) rfl 4 (by decide) (List.mem_of_getElem? (i := 1) rfl) rfl rfl dX1_goBack_52 ?_
          refine wk_callV C hR (As := [.int (gClauses_depth S15 l0A)]) (cnt := 1) (tX1_deriveAt (l := l) hWS15 (hXS15 _ _ (hXS14 _ _ (hXS6 _ _ hl0A))) h) rfl (wkGoodV (List.mem_of_getElem? (i := 6) rfl) (List.mem_of_getElem? (i := 7) rfl) (List.mem_of_getElem? (i := 8) rfl) (List.mem_of_getElem? (i := 9) rfl) hbX1_goBack_X1_deriveAt gdX1_deriveAt) (Nat.le_trans (by decide : 1 + 1 ≤ 2) hd) (by decide) (hXS15 _ _ (hXS14 _ _ (hXS6 _ _ hl0A))).1 (fun cy => wAt_1 cy _ (hXS15 _ _ (hXS14 _ _ (hXS6 _ _ hl0A))).2) rfl ⟨by decide, by decide, by decide +kernel⟩ rfl rfl (Nat.le_of_ble_eq_true rfl) (Nat.le_refl 0) (Nat.le_refl 0) dX1_goBack_55 (fun v' S17 hp => ?_)
          obtain ⟨v16, rfl, h, hWS17, hXS17⟩ := hp
          refine wk_goto C (tgt := 0) dX1_goBack_58 (by decide) ?_
          exact wk_forget (lv' := [some (.ref l0A)]) (wkLs.le ⟨rfl, trivial⟩) (ih _ _ hWS17 (wkExt.tr (wkExt.tr (wkExt.tr (wkExt.tr hE hXS6) hXS14) hXS15) hXS17) (hXS17 _ _ (hXS15 _ _ (hXS14 _ _ (hXS6 _ _ hl0A)))) h)
set_option maxHeartbeats 4000000 in
set_option maxRecDepth 100000 in
theorem tX1_goBack {l : Launch} {g : wkG} {F : Nat}  {S : wPS} {l0A : Nat} {Φ : (Unit → wPS → Prop)} (hW : wkWF S) (hl0A : wkIs S l0A 1) (h : rX1_goBack F l0A S Φ) : wkMet l g yX1_goBack wvX1_goBack 2 0 0 [.ref l0A] S (fun v' S'' => ∃ v : Unit, v' = none ∧ Φ v S'' ∧ wkWF S'' ∧ wkExt S S'') := by
  refine wkMet_of (ret := none) (by decide) rfl (Nat.le_of_ble_eq_true rfl) (fun X hg C hR E => ?_)
  subst hg
  have hE : wkExt S S := wkExt.rf
  have hd : 2 ≤ 2 := Nat.le_refl _
  have ih := tX1_goBack_go (F := F) C hR hd E F
  exact wk_forget (lv' := [some (.ref l0A)]) (wkLs.le ⟨rfl, trivial⟩) (ih _ _ hW hE hl0A h)
