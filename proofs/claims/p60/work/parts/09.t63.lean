def wvX8_baseOf : List Cond := .code yX8_baseOf cX8_baseOf 2 (some .int) :: (([.methodLink RX8 151 yX8_isBaseOf, .static yX8_isBaseOf, .initialized RX8] : List Cond) ++ (([]) ++ (wvX8_isBaseOf)))
theorem hbX8_baseOf_X8_isBaseOf : ∀ w ∈ wvX8_isBaseOf, w ∈ wvX8_baseOf := fun w h => List.mem_cons_of_mem _ (List.mem_append_right _ (List.mem_append_right _ h))
theorem gdX8_baseOf : ∀ w ∈ wvX8_baseOf, wkGd w := wkGdC rfl (wkGdA (wkGdL (by decide +kernel)) (wkGdA (fun _ h => absurd h List.not_mem_nil) gdX8_isBaseOf))
def rX8_baseOf_b0 (F : Nat) (rec : Nat → Int32 → Int32 → wPS → (Int32 → wPS → Prop) → Prop) (l0I : Int32) (l1I : Int32) (S : wPS) (Φ : (Int32 → wPS → Prop)) : Prop :=
  if l0I ≤ l1I then (Φ (1 : Int32) S) else (rX8_isBaseOf F l1I l0I S fun v2 S3 => if v2 = 0 then (wkLt (l1I + (1 : Int32)) fun x8 => rec 0 l0I x8 S3 Φ) else (Φ l1I S3))
def rX8_baseOf_go (F : Nat) : Nat → Nat → Int32 → Int32 → wPS → (Int32 → wPS → Prop) → Prop
  | 0, _, _, _, _, _ => False
  | k' + 1, lab, l0I, l1I, S, Φ => if lab = 0 then rX8_baseOf_b0 F (rX8_baseOf_go F k') l0I l1I S Φ else False
def rX8_baseOf_s (F : Nat) (rec : Nat → Int32 → Int32 → wPS → (Int32 → wPS → Prop) → Prop) (l0I : Int32) (S : wPS) (Φ : (Int32 → wPS → Prop)) : Prop :=
  rec 0 l0I (2 : Int32) S Φ
def rX8_baseOf (F : Nat) (l0I : Int32) (S : wPS) (Φ : (Int32 → wPS → Prop)) : Prop := rX8_baseOf_s F (rX8_baseOf_go F F) l0I S Φ
set_option maxHeartbeats 4000000 in
set_option maxRecDepth 100000 in
theorem tX8_baseOf_go {l : Launch} {X : wkX} {d F : Nat} {S0 : wPS} {Φ : (Int32 → wPS → Prop)} (C : wkC X cX8_baseOf RX8 2 wvX8_baseOf) (hR : wkRm X d 0 0) (hd : 2 ≤ d) (E : wkEnd l X cX8_baseOf 2 (some .int) 0 0 (fun v' S'' => ∃ v : Int32, v' = some (.int v) ∧ Φ v S'' ∧ wkWF S'' ∧ wkExt S0 S'')) : ∀ k' : Nat, (∀ (l0I : Int32) (l1I : Int32) (S : wPS), wkWF S → wkExt S0 S → rX8_baseOf_go F k' 0 l0I l1I S Φ → wkGo l X 2 0 0 2 S [some (.int l0I), some (.int l1I)] []) := by
  intro k'
  induction k' with
  | zero => exact fun l0I l1I S hW hE  h => h.elim
  | succ k' ih =>
    · intro l0I l1I S hW hE  h
      have h : rX8_baseOf_b0 F (rX8_baseOf_go F k') l0I l1I S Φ := by
        rw [rX8_baseOf_go, if_pos (rfl : (0 : Nat) = 0)] at h
        exact h
      unfold rX8_baseOf_b0 at h
      refine wk_iload_n C dX8_baseOf_2 rfl rfl ?_
      refine wk_iload_n C dX8_baseOf_3 rfl rfl ?_
      refine wk_icmp_ge C (tgt := 23) dX8_baseOf_4 (by decide) (fun c1 => ?_) (fun c1 => ?_)
      · rw [if_pos c1] at h
        refine wk_iconst C (v := 1) dX8_baseOf_23 (by decide) ?_
        exact E _ _ _ _ _ _ (Nat.le_refl 0) (Nat.le_refl 0) dX8_baseOf_24 ⟨(1 : Int32), rfl, h, hW, hE⟩
      · rw [if_neg c1] at h
        refine wk_iload_n C dX8_baseOf_7 rfl rfl ?_
        refine wk_iload_n C dX8_baseOf_8 rfl rfl ?_
        refine wk_callW C hR (As := [.int l1I, .int l0I]) (cnt := 2) (tX8_isBaseOf (l := l) hW  h) rfl (wkGoodW (List.mem_of_getElem? (i := 1) rfl) (List.mem_of_getElem? (i := 2) rfl) (List.mem_of_getElem? (i := 3) rfl) hbX8_baseOf_X8_isBaseOf gdX8_isBaseOf) (Nat.le_trans (by decide : 1 + 1 ≤ 2) hd) (by decide) ⟨by decide, by decide, by decide +kernel⟩ rfl rfl (Nat.le_of_ble_eq_true rfl) (Nat.le_refl 0) (Nat.le_refl 0) dX8_baseOf_9 (fun v' S3 hp => ?_)
        obtain ⟨v2, rfl, h, hWS3, hXS3⟩ := hp
        refine wk_if_eq C (tgt := 17) dX8_baseOf_12 (by decide) (fun c7 => ?_) (fun c7 => ?_)
        · rw [if_pos c7] at h
          obtain ⟨x8, ex8, h⟩ := wkLt_some h
          refine wk_iinc C (lv' := [some (.int l0I), some (.int x8)]) dX8_baseOf_17 rfl (by rw [ex8]; rfl) (by decide) rfl ?_
          refine wk_goto C (tgt := 2) dX8_baseOf_20 (by decide) ?_
          exact wk_forget (lv' := [some (.int l0I), some (.int x8)]) (wkLs.le ⟨rfl, rfl, trivial⟩) (ih _ _ _ hWS3 (wkExt.tr hE hXS3)  h)
        · rw [if_neg c7] at h
          refine wk_iload_n C dX8_baseOf_15 rfl rfl ?_
          exact E _ _ _ _ _ _ (Nat.le_refl 0) (Nat.le_refl 0) dX8_baseOf_16 ⟨l1I, rfl, h, hWS3, (wkExt.tr hE hXS3)⟩
set_option maxHeartbeats 4000000 in
set_option maxRecDepth 100000 in
theorem tX8_baseOf {l : Launch} {g : wkG} {F : Nat}  {S : wPS} {l0I : Int32} {Φ : (Int32 → wPS → Prop)} (hW : wkWF S)  (h : rX8_baseOf F l0I S Φ) : wkMet l g yX8_baseOf wvX8_baseOf 2 0 0 [.int l0I] S (fun v' S'' => ∃ v : Int32, v' = some (.int v) ∧ Φ v S'' ∧ wkWF S'' ∧ wkExt S S'') := by
  refine wkMet_of (ret := (some .int)) (by decide) rfl (Nat.le_of_ble_eq_true rfl) (fun X hg C hR E => ?_)
  subst hg
  have hE : wkExt S S := wkExt.rf
  have hd : 2 ≤ 2 := Nat.le_refl _
  show wkGo l X 2 0 0 0 S [some (.int l0I), none] []
  have ih := tX8_baseOf_go (F := F) C hR hd E F
  have h : rX8_baseOf_s F (rX8_baseOf_go F F) l0I S Φ := h
  unfold rX8_baseOf_s at h
  refine wk_iconst C (v := 2) dX8_baseOf_0 (by decide) ?_
  refine wk_istore_n C (lv' := [some (.int l0I), some (.int (2 : Int32))]) dX8_baseOf_1 rfl (by decide) rfl ?_
  exact wk_forget (lv' := [some (.int l0I), some (.int (2 : Int32))]) (wkLs.le ⟨rfl, rfl, trivial⟩) (ih _ _ _ hW hE  h)
def wvX8_judgePrime : List Cond := .code yX8_judgePrime cX8_judgePrime 3 (some .int) :: (([.methodLink RX8 159 yX8_readPrime, .static yX8_readPrime, .initialized RX8, .fieldLink RX8 135 "Witnessworks$Row" "count" "I", .methodLink RX8 67 yX9_at, .instanceMethod yX9_at, .selects RX9 yX9_at yX9_at, .initialized RX9, .fieldLink RX8 74 "Witnessworks$Entry" "boundNow" "I"] : List Cond) ++ ((wsX90 ++ (wsX30)) ++ (wvX8_readPrime ++ (wvX9_at))))
theorem huX8_judgePrime_9 : ∀ w ∈ u_ws RX9 TX9 2, w ∈ wvX8_judgePrime := fun w h => List.mem_cons_of_mem _ (List.mem_append_right _ (List.mem_append_left _ (List.mem_append_left _ h)))
theorem huX8_judgePrime_3 : ∀ w ∈ u_ws RX3 TX3 17, w ∈ wvX8_judgePrime := fun w h => List.mem_cons_of_mem _ (List.mem_append_right _ (List.mem_append_left _ (List.mem_append_right _ h)))
theorem hbX8_judgePrime_X8_readPrime : ∀ w ∈ wvX8_readPrime, w ∈ wvX8_judgePrime := fun w h => List.mem_cons_of_mem _ (List.mem_append_right _ (List.mem_append_right _ (List.mem_append_left _ h)))
theorem hbX8_judgePrime_X9_at : ∀ w ∈ wvX9_at, w ∈ wvX8_judgePrime := fun w h => List.mem_cons_of_mem _ (List.mem_append_right _ (List.mem_append_right _ (List.mem_append_right _ h)))
theorem gdX8_judgePrime : ∀ w ∈ wvX8_judgePrime, wkGd w := wkGdC rfl (wkGdA (wkGdL (by decide +kernel)) (wkGdA (wkGdA gdX9 gdX3) (wkGdA gdX8_readPrime gdX9_at)))
def rX8_judgePrime (F : Nat) (l0A : Nat) (l1A : Nat) (l2A : Nat) (S : wPS) (Φ : (Int32 → wPS → Prop)) : Prop :=
  rX8_readPrime F 48 l2A (0 : Int32) (0 : Int32) (0 : Int32) S fun v1 S2 => if v1 = (gRow_count S2 l2A) then (rX9_at F l2A (0 : Int32) S2 fun v7 S8 => if v7 = (gEntry_boundNow S8 l1A) then (rX8_readPrime F 48 l2A (0 : Int32) (0 : Int32) (1 : Int32) S8 fun v13 S14 => if v13 = (gRow_count S14 l2A) then (Φ (0 : Int32) S14) else (Φ (3 : Int32) S14)) else (Φ (2 : Int32) S8)) else (Φ (1 : Int32) S2)
set_option maxHeartbeats 4000000 in
set_option maxRecDepth 100000 in
theorem tX8_judgePrime {l : Launch} {g : wkG} {F : Nat}  {S : wPS} {l0A : Nat} {l1A : Nat} {l2A : Nat} {Φ : (Int32 → wPS → Prop)} (hW : wkWF S) (hl0A : wkIs S l0A 8) (hl1A : wkIs S l1A 3) (hl2A : wkIs S l2A 9) (h : rX8_judgePrime F l0A l1A l2A S Φ) : wkMet l g yX8_judgePrime wvX8_judgePrime 50 0 0 [.ref l0A, .ref l1A, .ref l2A] S (fun v' S'' => ∃ v : Int32, v' = some (.int v) ∧ Φ v S'' ∧ wkWF S'' ∧ wkExt S S'') := by
  refine wkMet_of (ret := (some .int)) (by decide) rfl (Nat.le_of_ble_eq_true rfl) (fun X hg C hR E => ?_)
  subst hg
  have hE : wkExt S S := wkExt.rf
  have hd : 50 ≤ 50 := Nat.le_refl _
  show wkGo l X 3 0 0 0 S [some (.ref l0A), some (.ref l1A), some (.ref l2A)] []
  unfold rX8_judgePrime at h
  refine wk_aload_n C dX8_judgePrime_0 rfl rfl ?_
  refine wk_iconst C (v := 0) dX8_judgePrime_1 (by decide) ?_
  refine wk_iconst C (v := 0) dX8_judgePrime_2 (by decide) ?_
  refine wk_iconst C (v := 0) dX8_judgePrime_3 (by decide) ?_
  refine wk_callW C hR (As := [.ref l2A, .int (0 : Int32), .int (0 : Int32), .int (0 : Int32)]) (cnt := 4) (tX8_readPrime (l := l) hW hl2A h) rfl (wkGoodW (List.mem_of_getElem? (i := 1) rfl) (List.mem_of_getElem? (i := 2) rfl) (List.mem_of_getElem? (i := 3) rfl) hbX8_judgePrime_X8_readPrime gdX8_readPrime) (Nat.le_trans (by decide : 49 + 1 ≤ 50) hd) (by decide) ⟨by decide, by decide, by decide +kernel⟩ rfl rfl (Nat.le_of_ble_eq_true rfl) (Nat.le_refl 0) (Nat.le_refl 0) dX8_judgePrime_4 (fun v' S2 hp => ?_)
  obtain ⟨v1, rfl, h, hWS2, hXS2⟩ := hp
  refine wk_aload_n C dX8_judgePrime_7 rfl rfl ?_
  refine wk_get C (v := .int (gRow_count S2 l2A)) huX8_judgePrime_9 (hXS2 _ _ hl2A).1 (fun cy => wAt_9 cy _ (hXS2 _ _ hl2A).2) rfl 1 (by decide) (List.mem_of_getElem? (i := 4) rfl) rfl rfl dX8_judgePrime_8 ?_
  refine wk_icmp_eq C (tgt := 16) dX8_judgePrime_11 (by decide) (fun c6 => ?_) (fun c6 => ?_)
  · rw [if_pos c6] at h
    refine wk_aload_n C dX8_judgePrime_16 rfl rfl ?_
    refine wk_iconst C (v := 0) dX8_judgePrime_17 (by decide) ?_
    refine wk_callV C hR (As := [.int (0 : Int32)]) (cnt := 1) (tX9_at (l := l) hWS2 (hXS2 _ _ hl2A) h) rfl (wkGoodV (List.mem_of_getElem? (i := 5) rfl) (List.mem_of_getElem? (i := 6) rfl) (List.mem_of_getElem? (i := 7) rfl) (List.mem_of_getElem? (i := 8) rfl) hbX8_judgePrime_X9_at gdX9_at) (Nat.le_trans (by decide : 0 + 1 ≤ 50) hd) (by decide) (hXS2 _ _ hl2A).1 (fun cy => wAt_9 cy _ (hXS2 _ _ hl2A).2) rfl ⟨by decide, by decide, by decide +kernel⟩ rfl rfl (Nat.le_of_ble_eq_true rfl) (Nat.le_refl 0) (Nat.le_refl 0) dX8_judgePrime_18 (fun v' S8 hp => ?_)
    obtain ⟨v7, rfl, h, hWS8, hXS8⟩ := hp
    refine wk_aload_n C dX8_judgePrime_21 rfl rfl ?_
    refine wk_get C (v := .int (gEntry_boundNow S8 l1A)) huX8_judgePrime_3 (hXS8 _ _ (hXS2 _ _ hl1A)).1 (fun cy => wAt_3 cy _ (hXS8 _ _ (hXS2 _ _ hl1A)).2) rfl 8 (by decide) (List.mem_of_getElem? (i := 9) rfl) rfl rfl dX8_judgePrime_22 ?_
    refine wk_icmp_eq C (tgt := 30) dX8_judgePrime_25 (by decide) (fun c12 => ?_) (fun c12 => ?_)
    · rw [if_pos c12] at h
      refine wk_aload_n C dX8_judgePrime_30 rfl rfl ?_
      refine wk_iconst C (v := 0) dX8_judgePrime_31 (by decide) ?_
      refine wk_iconst C (v := 0) dX8_judgePrime_32 (by decide) ?_
      refine wk_iconst C (v := 1) dX8_judgePrime_33 (by decide) ?_
      refine wk_callW C hR (As := [.ref l2A, .int (0 : Int32), .int (0 : Int32), .int (1 : Int32)]) (cnt := 4) (tX8_readPrime (l := l) hWS8 (hXS8 _ _ (hXS2 _ _ hl2A)) h) rfl (wkGoodW (List.mem_of_getElem? (i := 1) rfl) (List.mem_of_getElem? (i := 2) rfl) (List.mem_of_getElem? (i := 3) rfl) hbX8_judgePrime_X8_readPrime gdX8_readPrime) (Nat.le_trans (by decide : 49 + 1 ≤ 50) hd) (by decide) ⟨by decide, by decide, by decide +kernel⟩ rfl rfl (Nat.le_of_ble_eq_true rfl) (Nat.le_refl 0) (Nat.le_refl 0) dX8_judgePrime_34 (fun v' S14 hp => ?_)
      obtain ⟨v13, rfl, h, hWS14, hXS14⟩ := hp
      refine wk_aload_n C dX8_judgePrime_37 rfl rfl ?_
      refine wk_get C (v := .int (gRow_count S14 l2A)) huX8_judgePrime_9 (hXS14 _ _ (hXS8 _ _ (hXS2 _ _ hl2A))).1 (fun cy => wAt_9 cy _ (hXS14 _ _ (hXS8 _ _ (hXS2 _ _ hl2A))).2) rfl 1 (by decide) (List.mem_of_getElem? (i := 4) rfl) rfl rfl dX8_judgePrime_38 ?_
      refine wk_icmp_ne C (tgt := 48) dX8_judgePrime_41 (by decide) (fun c18 => ?_) (fun c18 => ?_)
      · rw [if_neg c18] at h
        refine wk_iconst C (v := 3) dX8_judgePrime_48 (by decide) ?_
        exact E _ _ _ _ _ _ (Nat.le_refl 0) (Nat.le_refl 0) dX8_judgePrime_49 ⟨(3 : Int32), rfl, h, hWS14, (wkExt.tr (wkExt.tr (wkExt.tr hE hXS2) hXS8) hXS14)⟩
      · rw [if_pos c18] at h
        refine wk_iconst C (v := 0) dX8_judgePrime_44 (by decide) ?_
        refine wk_goto C (tgt := 49) dX8_judgePrime_45 (by decide) ?_
        exact E _ _ _ _ _ _ (Nat.le_refl 0) (Nat.le_refl 0) dX8_judgePrime_49 ⟨(0 : Int32), rfl, h, hWS14, (wkExt.tr (wkExt.tr (wkExt.tr hE hXS2) hXS8) hXS14)⟩
    · rw [if_neg c12] at h
      refine wk_iconst C (v := 2) dX8_judgePrime_28 (by decide) ?_
      exact E _ _ _ _ _ _ (Nat.le_refl 0) (Nat.le_refl 0) dX8_judgePrime_29 ⟨(2 : Int32), rfl, h, hWS8, (wkExt.tr (wkExt.tr hE hXS2) hXS8)⟩
  · rw [if_neg c6] at h
    refine wk_iconst C (v := 1) dX8_judgePrime_14 (by decide) ?_
    exact E _ _ _ _ _ _ (Nat.le_refl 0) (Nat.le_refl 0) dX8_judgePrime_15 ⟨(1 : Int32), rfl, h, hWS2, (wkExt.tr hE hXS2)⟩
def wvX8_rootsOfPart : List Cond := .code yX8_rootsOfPart cX8_rootsOfPart 3 (some .int) :: (([.methodLink RX8 179 yX8_changesAt, .instanceMethod yX8_changesAt, .selects RX8 yX8_changesAt yX8_changesAt, .initialized RX8] : List Cond) ++ (([]) ++ (wvX8_changesAt)))
theorem hbX8_rootsOfPart_X8_changesAt : ∀ w ∈ wvX8_changesAt, w ∈ wvX8_rootsOfPart := fun w h => List.mem_cons_of_mem _ (List.mem_append_right _ (List.mem_append_right _ h))
theorem gdX8_rootsOfPart : ∀ w ∈ wvX8_rootsOfPart, wkGd w := wkGdC rfl (wkGdA (wkGdL (by decide +kernel)) (wkGdA (fun _ h => absurd h List.not_mem_nil) gdX8_changesAt))
def rX8_rootsOfPart (F : Nat) (l0A : Nat) (l1I : Int32) (l2I : Int32) (S : wPS) (Φ : (Int32 → wPS → Prop)) : Prop :=
  rX8_changesAt F l0A l1I l2I S fun v1 S2 => rX8_changesAt F l0A l1I (l2I + (1 : Int32)) S2 fun v6 S7 => Φ (v1 - v6) S7
set_option maxHeartbeats 4000000 in
set_option maxRecDepth 100000 in
theorem tX8_rootsOfPart {l : Launch} {g : wkG} {F : Nat}  {S : wPS} {l0A : Nat} {l1I : Int32} {l2I : Int32} {Φ : (Int32 → wPS → Prop)} (hW : wkWF S) (hl0A : wkIs S l0A 8) (h : rX8_rootsOfPart F l0A l1I l2I S Φ) : wkMet l g yX8_rootsOfPart wvX8_rootsOfPart 2 0 0 [.ref l0A, .int l1I, .int l2I] S (fun v' S'' => ∃ v : Int32, v' = some (.int v) ∧ Φ v S'' ∧ wkWF S'' ∧ wkExt S S'') := by
  refine wkMet_of (ret := (some .int)) (by decide) rfl (Nat.le_of_ble_eq_true rfl) (fun X hg C hR E => ?_)
  subst hg
  have hE : wkExt S S := wkExt.rf
  have hd : 2 ≤ 2 := Nat.le_refl _
  show wkGo l X 3 0 0 0 S [some (.ref l0A), some (.int l1I), some (.int l2I)] []
  unfold rX8_rootsOfPart at h
  refine wk_aload_n C dX8_rootsOfPart_0 rfl rfl ?_
  refine wk_iload_n C dX8_rootsOfPart_1 rfl rfl ?_
  refine wk_iload_n C dX8_rootsOfPart_2 rfl rfl ?_
  refine wk_callV C hR (As := [.int l1I, .int l2I]) (cnt := 2) (tX8_changesAt (l := l) hW hl0A h) rfl (wkGoodV (List.mem_of_getElem? (i := 1) rfl) (List.mem_of_getElem? (i := 2) rfl) (List.mem_of_getElem? (i := 3) rfl) (List.mem_of_getElem? (i := 4) rfl) hbX8_rootsOfPart_X8_changesAt gdX8_changesAt) (Nat.le_trans (by decide : 1 + 1 ≤ 2) hd) (by decide) hl0A.1 (fun cy => wAt_8 cy _ hl0A.2) rfl ⟨by decide, by decide, by decide +kernel⟩ rfl rfl (Nat.le_of_ble_eq_true rfl) (Nat.le_refl 0) (Nat.le_refl 0) dX8_rootsOfPart_3 (fun v' S2 hp => ?_)
  obtain ⟨v1, rfl, h, hWS2, hXS2⟩ := hp
  refine wk_aload_n C dX8_rootsOfPart_6 rfl rfl ?_
  refine wk_iload_n C dX8_rootsOfPart_7 rfl rfl ?_
  refine wk_iload_n C dX8_rootsOfPart_8 rfl rfl ?_
  refine wk_iconst C (v := 1) dX8_rootsOfPart_9 (by decide) ?_
  refine wk_iadd C dX8_rootsOfPart_10 rfl ?_
  refine wk_callV C hR (As := [.int l1I, .int (l2I + (1 : Int32))]) (cnt := 2) (tX8_changesAt (l := l) hWS2 (hXS2 _ _ hl0A) h) rfl (wkGoodV (List.mem_of_getElem? (i := 1) rfl) (List.mem_of_getElem? (i := 2) rfl) (List.mem_of_getElem? (i := 3) rfl) (List.mem_of_getElem? (i := 4) rfl) hbX8_rootsOfPart_X8_changesAt gdX8_changesAt) (Nat.le_trans (by decide : 1 + 1 ≤ 2) hd) (by decide) (hXS2 _ _ hl0A).1 (fun cy => wAt_8 cy _ (hXS2 _ _ hl0A).2) rfl ⟨by decide, by decide, by decide +kernel⟩ rfl rfl (Nat.le_of_ble_eq_true rfl) (Nat.le_refl 0) (Nat.le_refl 0) dX8_rootsOfPart_11 (fun v' S7 hp => ?_)
  obtain ⟨v6, rfl, h, hWS7, hXS7⟩ := hp
  refine wk_isub C dX8_rootsOfPart_14 rfl ?_
  exact E _ _ _ _ _ _ (Nat.le_refl 0) (Nat.le_refl 0) dX8_rootsOfPart_15 ⟨(v1 - v6), rfl, h, hWS7, (wkExt.tr (wkExt.tr hE hXS2) hXS7)⟩
def wvX8_addRest : List Cond := .code yX8_addRest cX8_addRest 5 (some .boolean) :: (([.fieldLink RX8 26 "Witnessworks$Numbers" "degrees" "[I", .fieldLink RX8 173 "Witnessworks$Numbers" "chainCount" "I", .fieldLink RX8 23 "Witnessworks$Numbers" "chain" "[[J", .fieldLink RX8 30 "Witnessworks$Numbers" "left" "[J", .methodLink RX8 200 yX8_divide, .instanceMethod yX8_divide, .selects RX8 yX8_divide yX8_divide, .initialized RX8, .methodLink RX8 182 yX8_degreeOf, .static yX8_degreeOf] : List Cond) ++ ((wsX80) ++ (wvX8_divide ++ (wvX8_degreeOf))))
theorem huX8_addRest_8 : ∀ w ∈ u_ws RX8 TX8 9, w ∈ wvX8_addRest := fun w h => List.mem_cons_of_mem _ (List.mem_append_right _ (List.mem_append_left _ h))
theorem hbX8_addRest_X8_divide : ∀ w ∈ wvX8_divide, w ∈ wvX8_addRest := fun w h => List.mem_cons_of_mem _ (List.mem_append_right _ (List.mem_append_right _ (List.mem_append_left _ h)))
theorem hbX8_addRest_X8_degreeOf : ∀ w ∈ wvX8_degreeOf, w ∈ wvX8_addRest := fun w h => List.mem_cons_of_mem _ (List.mem_append_right _ (List.mem_append_right _ (List.mem_append_right _ h)))
theorem gdX8_addRest : ∀ w ∈ wvX8_addRest, wkGd w := wkGdC rfl (wkGdA (wkGdL (by decide +kernel)) (wkGdA gdX8 (wkGdA gdX8_divide gdX8_degreeOf)))
def rX8_addRest_b0 (F : Nat) (rec : Nat → Nat → Int32 → Int32 → wPS → (Int32 → wPS → Prop) → Prop) (l0A : Nat) (l3I : Int32) (l4I : Int32) (S : wPS) (Φ : (Int32 → wPS → Prop)) : Prop :=
  if (4 : Int32) ≤ l4I then (¬ ((gNumbers_chainCount S l0A) < 0 ∨ S.len (wkAd (gNumbers_degrees S l0A)) ≤ ((gNumbers_chainCount S l0A)).toNatClampNeg) ∧ wkLt (wuI S (wkAd (gNumbers_degrees S l0A)) (gNumbers_chainCount S l0A) l3I) fun S3 => Φ (1 : Int32) S3) else (¬ ((gNumbers_chainCount S l0A) < 0 ∨ S.len (wkAd (gNumbers_chain S l0A)) ≤ ((gNumbers_chainCount S l0A)).toNatClampNeg) ∧ ¬ (l4I < 0 ∨ S.len (wkAd (gNumbers_left S l0A)) ≤ (l4I).toNatClampNeg) ∧ ¬ (l4I < 0 ∨ S.len (wkAd (S.rA (wkAd (gNumbers_chain S l0A)) ((gNumbers_chainCount S l0A)).toNatClampNeg)) ≤ (l4I).toNatClampNeg) ∧ wkLt (wuJ S (wkAd (S.rA (wkAd (gNumbers_chain S l0A)) ((gNumbers_chainCount S l0A)).toNatClampNeg)) l4I (-(S.rJ (wkAd (gNumbers_left S l0A)) (l4I).toNatClampNeg))) fun S8 => wkLt (l4I + (1 : Int32)) fun x9 => rec 0 l0A l3I x9 S8 Φ)
def rX8_addRest_go (F : Nat) : Nat → Nat → Nat → Int32 → Int32 → wPS → (Int32 → wPS → Prop) → Prop
  | 0, _, _, _, _, _, _ => False
  | k' + 1, lab, l0A, l3I, l4I, S, Φ => if lab = 0 then rX8_addRest_b0 F (rX8_addRest_go F k') l0A l3I l4I S Φ else False
def rX8_addRest_s (F : Nat) (rec : Nat → Nat → Int32 → Int32 → wPS → (Int32 → wPS → Prop) → Prop) (l0A : Nat) (S : wPS) (Φ : (Int32 → wPS → Prop)) : Prop :=
  ¬ (((gNumbers_chainCount S l0A) - (1 : Int32)) < 0 ∨ S.len (wkAd (gNumbers_chain S l0A)) ≤ (((gNumbers_chainCount S l0A) - (1 : Int32))).toNatClampNeg) ∧ ¬ (((gNumbers_chainCount S l0A) - (1 : Int32)) < 0 ∨ S.len (wkAd (gNumbers_degrees S l0A)) ≤ (((gNumbers_chainCount S l0A) - (1 : Int32))).toNatClampNeg) ∧ wkLt ((S.rI (wkAd (gNumbers_degrees S l0A)) (((gNumbers_chainCount S l0A) - (1 : Int32))).toNatClampNeg)) fun x13 => ¬ (((gNumbers_chainCount S l0A) - (2 : Int32)) < 0 ∨ S.len (wkAd (gNumbers_chain S l0A)) ≤ (((gNumbers_chainCount S l0A) - (2 : Int32))).toNatClampNeg) ∧ ¬ (((gNumbers_chainCount S l0A) - (2 : Int32)) < 0 ∨ S.len (wkAd (gNumbers_degrees S l0A)) ≤ (((gNumbers_chainCount S l0A) - (2 : Int32))).toNatClampNeg) ∧ rX8_divide F l0A (wkAd (S.rA (wkAd (gNumbers_chain S l0A)) (((gNumbers_chainCount S l0A) - (2 : Int32))).toNatClampNeg)) (wkAd (S.rA (wkAd (gNumbers_chain S l0A)) (((gNumbers_chainCount S l0A) - (1 : Int32))).toNatClampNeg)) (S.rI (wkAd (gNumbers_degrees S l0A)) (((gNumbers_chainCount S l0A) - (2 : Int32))).toNatClampNeg) x13 S fun v17 S18 => rX8_degreeOf F (wkAd (gNumbers_left S18 l0A)) S18 fun v22 S23 => if 0 ≤ v22 then (rec 0 l0A v22 (0 : Int32) S23 Φ) else (Φ (0 : Int32) S23)
def rX8_addRest (F : Nat) (l0A : Nat) (S : wPS) (Φ : (Int32 → wPS → Prop)) : Prop := rX8_addRest_s F (rX8_addRest_go F F) l0A S Φ
set_option maxHeartbeats 4000000 in
set_option maxRecDepth 100000 in
theorem tX8_addRest_go {l : Launch} {X : wkX} {d F : Nat} {S0 : wPS} {Φ : (Int32 → wPS → Prop)} (C : wkC X cX8_addRest RX8 5 wvX8_addRest) (hR : wkRm X d 0 0) (hd : 2 ≤ d) (E : wkEnd l X cX8_addRest 5 (some .boolean) 0 0 (fun v' S'' => ∃ v : Int32, v' = some (.int v) ∧ Φ v S'' ∧ wkWF S'' ∧ wkExt S0 S'')) : ∀ k' : Nat, (∀ (l0A : Nat) (l3I : Int32) (l4I : Int32) (S : wPS), wkWF S → wkExt S0 S → wkIs S l0A 8 → rX8_addRest_go F k' 0 l0A l3I l4I S Φ → wkGo l X 5 0 0 69 S [some (.ref l0A), none, none, some (.int l3I), some (.int l4I)] []) := by
  intro k'
  induction k' with
  | zero => exact fun l0A l3I l4I S hW hE hl0A h => h.elim
  | succ k' ih =>
    · intro l0A l3I l4I S hW hE hl0A h
      have h : rX8_addRest_b0 F (rX8_addRest_go F k') l0A l3I l4I S Φ := by
        rw [rX8_addRest_go, if_pos (rfl : (0 : Nat) = 0)] at h
        exact h
      unfold rX8_addRest_b0 at h
      refine wk_iload C dX8_addRest_69 rfl ?_
      refine wk_iconst C (v := 4) dX8_addRest_71 (by decide) ?_
      refine wk_icmp_ge C (tgt := 101) dX8_addRest_72 (by decide) (fun c1 => ?_) (fun c1 => ?_)
      · rw [if_pos c1] at h
        refine wk_aload_n C dX8_addRest_101 rfl rfl ?_
        refine wk_get C huX8_addRest_8 hl0A.1 (fun cy => wAt_8 cy _ hl0A.2) rfl 5 (by decide) (List.mem_of_getElem? (i := 1) rfl) rfl (congrArg some (congrArg va_rf (wf_Numbers_degrees hW hl0A).1)) dX8_addRest_102 ?_
        refine wk_aload_n C dX8_addRest_105 rfl rfl ?_
        refine wk_get C (v := .int (gNumbers_chainCount S l0A)) huX8_addRest_8 hl0A.1 (fun cy => wAt_8 cy _ hl0A.2) rfl 8 (by decide) (List.mem_of_getElem? (i := 2) rfl) rfl rfl dX8_addRest_106 ?_
        refine wk_iload_n C dX8_addRest_109 rfl rfl ?_
        obtain ⟨i2, h⟩ := h
        obtain ⟨S3, eS3, h⟩ := wkLt_some h
        refine wk_iast C (wf_Numbers_degrees hW hl0A).2.1 (wf_Numbers_degrees hW hl0A).2.2 i2 eS3.symm dX8_addRest_110 ?_
        have hWS3 : wkWF S3 := by rw [eS3]; exact hW
        have hXS3 : wkExt S S3 := by rw [eS3]; exact wkExt.rf
        refine wk_iconst C (v := 1) dX8_addRest_111 (by decide) ?_
        exact E _ _ _ _ _ _ (Nat.le_refl 0) (Nat.le_refl 0) dX8_addRest_112 rfl ⟨(1 : Int32), rfl, h, hWS3, (wkExt.tr hE hXS3)⟩
      · rw [if_neg c1] at h
        refine wk_aload_n C dX8_addRest_75 rfl rfl ?_
        refine wk_get C huX8_addRest_8 hl0A.1 (fun cy => wAt_8 cy _ hl0A.2) rfl 4 (by decide) (List.mem_of_getElem? (i := 3) rfl) rfl (congrArg some (congrArg va_rf (wf_Numbers_chain hW hl0A).1)) dX8_addRest_76 ?_
        refine wk_aload_n C dX8_addRest_79 rfl rfl ?_
        refine wk_get C (v := .int (gNumbers_chainCount S l0A)) huX8_addRest_8 hl0A.1 (fun cy => wAt_8 cy _ hl0A.2) rfl 8 (by decide) (List.mem_of_getElem? (i := 2) rfl) rfl rfl dX8_addRest_80 ?_
        obtain ⟨i4, h⟩ := h
        have w5 := wf_R_J hW (wf_Numbers_chain hW hl0A).2 (Nat.not_le.mp fun q => i4 (Or.inr q))
        refine wk_aald_J C (wf_Numbers_chain hW hl0A).2.1 (wf_Numbers_chain hW hl0A).2.2 i4 w5.1 dX8_addRest_83 ?_
        refine wk_iload C dX8_addRest_84 rfl ?_
        refine wk_aload_n C dX8_addRest_86 rfl rfl ?_
        refine wk_get C huX8_addRest_8 hl0A.1 (fun cy => wAt_8 cy _ hl0A.2) rfl 6 (by decide) (List.mem_of_getElem? (i := 4) rfl) rfl (congrArg some (congrArg va_rf (wf_Numbers_left hW hl0A).1)) dX8_addRest_87 ?_
        refine wk_iload C dX8_addRest_90 rfl ?_
        obtain ⟨i6, h⟩ := h
        refine wk_lald C (wf_Numbers_left hW hl0A).2.1 (wf_Numbers_left hW hl0A).2.2 i6 rfl dX8_addRest_92 ?_
        refine wk_lneg C dX8_addRest_93 rfl ?_
        obtain ⟨i7, h⟩ := h
        obtain ⟨S8, eS8, h⟩ := wkLt_some h
        refine wk_last C w5.2.1 w5.2.2 i7 eS8.symm dX8_addRest_94 ?_
        have hWS8 : wkWF S8 := by rw [eS8]; exact hW
        have hXS8 : wkExt S S8 := by rw [eS8]; exact wkExt.rf
        obtain ⟨x9, ex9, h⟩ := wkLt_some h
        refine wk_iinc C (lv' := [some (.ref l0A), none, none, some (.int l3I), some (.int x9)]) dX8_addRest_95 rfl (by rw [ex9]; rfl) (by decide) rfl ?_
        refine wk_goto C (tgt := 69) dX8_addRest_98 (by decide) ?_
        exact wk_forget (lv' := [some (.ref l0A), none, none, some (.int l3I), some (.int x9)]) (wkLs.le ⟨rfl, rfl, rfl, trivial⟩) (ih _ _ _ _ hWS8 (wkExt.tr hE hXS8) (hXS8 _ _ hl0A) h)
set_option maxHeartbeats 4000000 in
set_option maxRecDepth 100000 in
theorem tX8_addRest {l : Launch} {g : wkG} {F : Nat}  {S : wPS} {l0A : Nat} {Φ : (Int32 → wPS → Prop)} (hW : wkWF S) (hl0A : wkIs S l0A 8) (h : rX8_addRest F l0A S Φ) : wkMet l g yX8_addRest wvX8_addRest 2 0 0 [.ref l0A] S (fun v' S'' => ∃ v : Int32, v' = some (.int v) ∧ Φ v S'' ∧ wkWF S'' ∧ wkExt S S'') := by
  refine wkMet_of (ret := (some .boolean)) (by decide) rfl (Nat.le_of_ble_eq_true rfl) (fun X hg C hR E => ?_)
  subst hg
  have hE : wkExt S S := wkExt.rf
  have hd : 2 ≤ 2 := Nat.le_refl _
  show wkGo l X 5 0 0 0 S [some (.ref l0A), none, none, none, none] []
  have ih := tX8_addRest_go (F := F) C hR hd E F
  have h : rX8_addRest_s F (rX8_addRest_go F F) l0A S Φ := h
  unfold rX8_addRest_s at h
  refine wk_aload_n C dX8_addRest_0 rfl rfl ?_
  refine wk_get C huX8_addRest_8 hl0A.1 (fun cy => wAt_8 cy _ hl0A.2) rfl 4 (by decide) (List.mem_of_getElem? (i := 3) rfl) rfl (congrArg some (congrArg va_rf (wf_Numbers_chain hW hl0A).1)) dX8_addRest_1 ?_
  refine wk_aload_n C dX8_addRest_4 rfl rfl ?_
  refine wk_get C (v := .int (gNumbers_chainCount S l0A)) huX8_addRest_8 hl0A.1 (fun cy => wAt_8 cy _ hl0A.2) rfl 8 (by decide) (List.mem_of_getElem? (i := 2) rfl) rfl rfl dX8_addRest_5 ?_
  refine wk_iconst C (v := 1) dX8_addRest_8 (by decide) ?_
  refine wk_isub C dX8_addRest_9 rfl ?_
  obtain ⟨i10, h⟩ := h
  have w11 := wf_R_J hW (wf_Numbers_chain hW hl0A).2 (Nat.not_le.mp fun q => i10 (Or.inr q))
  refine wk_aald_J C (wf_Numbers_chain hW hl0A).2.1 (wf_Numbers_chain hW hl0A).2.2 i10 w11.1 dX8_addRest_10 ?_
  refine wk_astore_n C (lv' := [some (.ref l0A), some (.ref (wkAd (S.rA (wkAd (gNumbers_chain S l0A)) (((gNumbers_chainCount S l0A) - (1 : Int32))).toNatClampNeg))), none, none, none]) dX8_addRest_11 rfl (by decide) rfl ?_
  refine wk_aload_n C dX8_addRest_12 rfl rfl ?_
  refine wk_get C huX8_addRest_8 hl0A.1 (fun cy => wAt_8 cy _ hl0A.2) rfl 5 (by decide) (List.mem_of_getElem? (i := 1) rfl) rfl (congrArg some (congrArg va_rf (wf_Numbers_degrees hW hl0A).1)) dX8_addRest_13 ?_
  refine wk_aload_n C dX8_addRest_16 rfl rfl ?_
  refine wk_get C (v := .int (gNumbers_chainCount S l0A)) huX8_addRest_8 hl0A.1 (fun cy => wAt_8 cy _ hl0A.2) rfl 8 (by decide) (List.mem_of_getElem? (i := 2) rfl) rfl rfl dX8_addRest_17 ?_
  refine wk_iconst C (v := 1) dX8_addRest_20 (by decide) ?_
  refine wk_isub C dX8_addRest_21 rfl ?_
  obtain ⟨i12, h⟩ := h
  refine wk_iald C (wf_Numbers_degrees hW hl0A).2.1 (wf_Numbers_degrees hW hl0A).2.2 i12 rfl dX8_addRest_22 ?_
  obtain ⟨x13, ex13, h⟩ := wkLt_some h
  refine wk_topi ex13 ?_
  refine wk_istore_n C (lv' := [some (.ref l0A), some (.ref (wkAd (S.rA (wkAd (gNumbers_chain S l0A)) (((gNumbers_chainCount S l0A) - (1 : Int32))).toNatClampNeg))), some (.int x13), none, none]) dX8_addRest_23 rfl (by decide) rfl ?_
  refine wk_aload_n C dX8_addRest_24 rfl rfl ?_
  refine wk_aload_n C dX8_addRest_25 rfl rfl ?_
  refine wk_get C huX8_addRest_8 hl0A.1 (fun cy => wAt_8 cy _ hl0A.2) rfl 4 (by decide) (List.mem_of_getElem? (i := 3) rfl) rfl (congrArg some (congrArg va_rf (wf_Numbers_chain hW hl0A).1)) dX8_addRest_26 ?_
  refine wk_aload_n C dX8_addRest_29 rfl rfl ?_
  refine wk_get C (v := .int (gNumbers_chainCount S l0A)) huX8_addRest_8 hl0A.1 (fun cy => wAt_8 cy _ hl0A.2) rfl 8 (by decide) (List.mem_of_getElem? (i := 2) rfl) rfl rfl dX8_addRest_30 ?_
  refine wk_iconst C (v := 2) dX8_addRest_33 (by decide) ?_
  refine wk_isub C dX8_addRest_34 rfl ?_
  obtain ⟨i14, h⟩ := h
  have w15 := wf_R_J hW (wf_Numbers_chain hW hl0A).2 (Nat.not_le.mp fun q => i14 (Or.inr q))
  refine wk_aald_J C (wf_Numbers_chain hW hl0A).2.1 (wf_Numbers_chain hW hl0A).2.2 i14 w15.1 dX8_addRest_35 ?_
  refine wk_aload_n C dX8_addRest_36 rfl rfl ?_
  refine wk_aload_n C dX8_addRest_37 rfl rfl ?_
  refine wk_get C huX8_addRest_8 hl0A.1 (fun cy => wAt_8 cy _ hl0A.2) rfl 5 (by decide) (List.mem_of_getElem? (i := 1) rfl) rfl (congrArg some (congrArg va_rf (wf_Numbers_degrees hW hl0A).1)) dX8_addRest_38 ?_
  refine wk_aload_n C dX8_addRest_41 rfl rfl ?_
  refine wk_get C (v := .int (gNumbers_chainCount S l0A)) huX8_addRest_8 hl0A.1 (fun cy => wAt_8 cy _ hl0A.2) rfl 8 (by decide) (List.mem_of_getElem? (i := 2) rfl) rfl rfl dX8_addRest_42 ?_
  refine wk_iconst C (v := 2) dX8_addRest_45 (by decide) ?_
  refine wk_isub C dX8_addRest_46 rfl ?_
  obtain ⟨i16, h⟩ := h
  refine wk_iald C (wf_Numbers_degrees hW hl0A).2.1 (wf_Numbers_degrees hW hl0A).2.2 i16 rfl dX8_addRest_47 ?_
  refine wk_iload_n C dX8_addRest_48 rfl rfl ?_
  refine wk_callV C hR (As := [.ref (wkAd (S.rA (wkAd (gNumbers_chain S l0A)) (((gNumbers_chainCount S l0A) - (2 : Int32))).toNatClampNeg)), .ref (wkAd (S.rA (wkAd (gNumbers_chain S l0A)) (((gNumbers_chainCount S l0A) - (1 : Int32))).toNatClampNeg)), .int (S.rI (wkAd (gNumbers_degrees S l0A)) (((gNumbers_chainCount S l0A) - (2 : Int32))).toNatClampNeg), .int x13]) (cnt := 4) (tX8_divide (l := l) hW hl0A w15.2 w11.2 h) rfl (wkGoodV (List.mem_of_getElem? (i := 5) rfl) (List.mem_of_getElem? (i := 6) rfl) (List.mem_of_getElem? (i := 7) rfl) (List.mem_of_getElem? (i := 8) rfl) hbX8_addRest_X8_divide gdX8_divide) (Nat.le_trans (by decide : 1 + 1 ≤ 2) hd) (by decide) hl0A.1 (fun cy => wAt_8 cy _ hl0A.2) rfl ⟨by decide, by decide, by decide +kernel⟩ rfl rfl (Nat.le_of_ble_eq_true rfl) (Nat.le_refl 0) (Nat.le_refl 0) dX8_addRest_49 (fun v' S18 hp => ?_)
  obtain ⟨v17, rfl, h, hWS18, hXS18⟩ := hp
  refine wk_aload_n C dX8_addRest_52 rfl rfl ?_
  refine wk_get C huX8_addRest_8 (hXS18 _ _ hl0A).1 (fun cy => wAt_8 cy _ (hXS18 _ _ hl0A).2) rfl 6 (by decide) (List.mem_of_getElem? (i := 4) rfl) rfl (congrArg some (congrArg va_rf (wf_Numbers_left hWS18 (hXS18 _ _ hl0A)).1)) dX8_addRest_53 ?_
  refine wk_callW C hR (As := [.ref (wkAd (gNumbers_left S18 l0A))]) (cnt := 1) (tX8_degreeOf (l := l) hWS18 (wf_Numbers_left hWS18 (hXS18 _ _ hl0A)).2 h) rfl (wkGoodW (List.mem_of_getElem? (i := 9) rfl) (List.mem_of_getElem? (i := 10) rfl) (List.mem_of_getElem? (i := 8) rfl) hbX8_addRest_X8_degreeOf gdX8_degreeOf) (Nat.le_trans (by decide : 0 + 1 ≤ 2) hd) (by decide) ⟨by decide, by decide, by decide +kernel⟩ rfl rfl (Nat.le_of_ble_eq_true rfl) (Nat.le_refl 0) (Nat.le_refl 0) dX8_addRest_56 (fun v' S23 hp => ?_)
  obtain ⟨v22, rfl, h, hWS23, hXS23⟩ := hp
  refine wk_istore_n C (lv' := [some (.ref l0A), some (.ref (wkAd (S.rA (wkAd (gNumbers_chain S l0A)) (((gNumbers_chainCount S l0A) - (1 : Int32))).toNatClampNeg))), some (.int x13), some (.int v22), none]) dX8_addRest_59 rfl (by decide) rfl ?_
  refine wk_iload_n C dX8_addRest_60 rfl rfl ?_
  refine wk_if_ge C (tgt := 66) dX8_addRest_61 (by decide) (fun c27 => ?_) (fun c27 => ?_)
  · rw [if_pos c27] at h
    refine wk_iconst C (v := 0) dX8_addRest_66 (by decide) ?_
    refine wk_istore C (lv' := [some (.ref l0A), some (.ref (wkAd (S.rA (wkAd (gNumbers_chain S l0A)) (((gNumbers_chainCount S l0A) - (1 : Int32))).toNatClampNeg))), some (.int x13), some (.int v22), some (.int (0 : Int32))]) dX8_addRest_67 (by decide) rfl ?_
    exact wk_forget (lv' := [some (.ref l0A), none, none, some (.int v22), some (.int (0 : Int32))]) (wkLs.le ⟨rfl, rfl, rfl, trivial⟩) (ih _ _ _ _ hWS23 (wkExt.tr (wkExt.tr hE hXS18) hXS23) (hXS23 _ _ (hXS18 _ _ hl0A)) h)
  · rw [if_neg c27] at h
    refine wk_iconst C (v := 0) dX8_addRest_64 (by decide) ?_
    exact E _ _ _ _ _ _ (Nat.le_refl 0) (Nat.le_refl 0) dX8_addRest_65 rfl ⟨(0 : Int32), rfl, h, hWS23, (wkExt.tr (wkExt.tr hE hXS18) hXS23)⟩
