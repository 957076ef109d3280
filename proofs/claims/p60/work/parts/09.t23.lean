def wvJ9_floorMod_f86c9 : List Cond := .code yJ9_floorMod_f86c9 cJ9_floorMod_f86c9 6 (some .long) :: (([] : List Cond) ++ (([]) ++ ([])))
theorem gdJ9_floorMod_f86c9 : ∀ w ∈ wvJ9_floorMod_f86c9, wkGd w := wkGdC rfl (wkGdA (wkGdL (by decide +kernel)) (wkGdA (fun _ h => absurd h List.not_mem_nil) (fun _ h => absurd h List.not_mem_nil)))
def rJ9_floorMod_f86c9 (F : Nat) (l0J : Int64) (l2J : Int64) (S : wPS) (Φ : (Int64 → wPS → Prop)) : Prop :=
  ¬ l2J = 0 ∧ wkLt ((l0J - l0J / l2J * l2J)) fun x2 => if 0 ≤ (lg_cmp (l0J ^^^ l2J) (0 : Int64)) then (Φ x2 S) else (if (lg_cmp x2 (0 : Int64)) = 0 then (Φ x2 S) else (Φ (x2 + l2J) S))
set_option maxHeartbeats 4000000 in
set_option maxRecDepth 100000 in
theorem tJ9_floorMod_f86c9 {l : Launch} {g : wkG} {F : Nat}  {S : wPS} {l0J : Int64} {l2J : Int64} {Φ : (Int64 → wPS → Prop)} (hW : wkWF S)  (h : rJ9_floorMod_f86c9 F l0J l2J S Φ) : wkMet l g yJ9_floorMod_f86c9 wvJ9_floorMod_f86c9 0 0 0 [.long l0J, .long l2J] S (fun v' S'' => ∃ v : Int64, v' = some (.long v) ∧ Φ v S'' ∧ wkWF S'' ∧ wkExt S S'') := by
  refine wkMet_ofF (ret := (some .long)) (by decide +kernel) rfl (Nat.le_of_ble_eq_true rfl) (fun X hg C hR E => ?_)
  subst hg
  have hE : wkExt S S := wkExt.rf
  have hd : 0 ≤ 0 := Nat.le_refl _
  show wkGo l X 6 0 0 0 S [some (.long l0J), none, some (.long l2J), none, none, none] []
  unfold rJ9_floorMod_f86c9 at h
  refine wk_lload_n C dJ9_floorMod_f86c9_0 rfl rfl ?_
  refine wk_lload_n C dJ9_floorMod_f86c9_1 rfl rfl ?_
  obtain ⟨z1, h⟩ := h
  refine wk_lrem C dJ9_floorMod_f86c9_2 z1 rfl ?_
  obtain ⟨x2, ex2, h⟩ := wkLt_some h
  refine wk_topl ex2 ?_
  refine wk_lstore C (lv' := [some (.long l0J), none, some (.long l2J), none, some (.long x2), none]) dJ9_floorMod_f86c9_3 (by decide) rfl ?_
  refine wk_lload_n C dJ9_floorMod_f86c9_5 rfl rfl ?_
  refine wk_lload_n C dJ9_floorMod_f86c9_6 rfl rfl ?_
  refine wk_lxor C dJ9_floorMod_f86c9_7 rfl ?_
  refine wk_lconst C (v := 0) dJ9_floorMod_f86c9_8 (by decide) ?_
  refine wk_lcmp C dJ9_floorMod_f86c9_9 rfl ?_
  refine wk_if_ge C (tgt := 25) dJ9_floorMod_f86c9_10 (by decide) (fun c3 => ?_) (fun c3 => ?_)
  · rw [if_pos c3] at h
    refine wk_lload C dJ9_floorMod_f86c9_25 rfl ?_
    exact E _ _ _ _ _ _ (Nat.le_refl 0) (Nat.le_refl 0) dJ9_floorMod_f86c9_27 ⟨x2, rfl, h, hW, hE⟩
  · rw [if_neg c3] at h
    refine wk_lload C dJ9_floorMod_f86c9_13 rfl ?_
    refine wk_lconst C (v := 0) dJ9_floorMod_f86c9_15 (by decide) ?_
    refine wk_lcmp C dJ9_floorMod_f86c9_16 rfl ?_
    refine wk_if_eq C (tgt := 25) dJ9_floorMod_f86c9_17 (by decide) (fun c4 => ?_) (fun c4 => ?_)
    · rw [if_pos c4] at h
      refine wk_lload C dJ9_floorMod_f86c9_25 rfl ?_
      exact E _ _ _ _ _ _ (Nat.le_refl 0) (Nat.le_refl 0) dJ9_floorMod_f86c9_27 ⟨x2, rfl, h, hW, hE⟩
    · rw [if_neg c4] at h
      refine wk_lload C dJ9_floorMod_f86c9_20 rfl ?_
      refine wk_lload_n C dJ9_floorMod_f86c9_22 rfl rfl ?_
      refine wk_ladd C dJ9_floorMod_f86c9_23 rfl ?_
      exact E _ _ _ _ _ _ (Nat.le_refl 0) (Nat.le_refl 0) dJ9_floorMod_f86c9_24 ⟨(x2 + l2J), rfl, h, hW, hE⟩
def wvJ0_coder_7d493 : List Cond := .code yJ0_coder_7d493 cJ0_coder_7d493 1 (some .byte) :: (([.fieldLink RJ0 38 "java/lang/String" "COMPACT_STRINGS" "Z", .fieldLink RJ0 15 "java/lang/String" "coder" "B"] : List Cond) ++ (([]) ++ ([])))
theorem gdJ0_coder_7d493 : ∀ w ∈ wvJ0_coder_7d493, wkGd w := wkGdC rfl (wkGdA (wkGdL (by decide +kernel)) (wkGdA (fun _ h => absurd h List.not_mem_nil) (fun _ h => absurd h List.not_mem_nil)))
def rJ0_coder_7d493 (F : Nat)  (S : wPS) (Φ : (Int32 → wPS → Prop)) : Prop :=
  Φ (0 : Int32) S
set_option maxHeartbeats 4000000 in
set_option maxRecDepth 100000 in
theorem tJ0_coder_7d493 {l : Launch} {g : wkG} {F : Nat}  {S : wPS} {l0A : Nat} {Φ : (Int32 → wPS → Prop)} (hstr : wkStr g) (hW : wkWF S) (hl0A : l0A = g.1 5) (h : rJ0_coder_7d493 F  S Φ) : wkMet l g yJ0_coder_7d493 wvJ0_coder_7d493 0 0 0 [.ref l0A] S (fun v' S'' => ∃ v : Int32, v' = some (.int v) ∧ Φ v S'' ∧ wkWF S'' ∧ wkExt S S'') := by
  refine wkMet_of (ret := (some .byte)) (by decide) rfl (Nat.le_of_ble_eq_true rfl) (fun X hg C hR E => ?_)
  subst hg
  have hE : wkExt S S := wkExt.rf
  have hd : 0 ≤ 0 := Nat.le_refl _
  show wkGo l X 1 0 0 0 S [some (.ref l0A)] []
  unfold rJ0_coder_7d493 at h
  refine wk_scmp C hstr (List.mem_of_getElem? (i := 1) rfl) dJ0_coder_7d493_0 ?_
  refine wk_if_eq C (tgt := 13) dJ0_coder_7d493_3 (by decide) (fun c => False.elim (by revert c; decide)) (fun _ => ?_)
  refine wk_aload_n C dJ0_coder_7d493_6 rfl rfl ?_
  refine wk_scod C hstr hl0A (List.mem_of_getElem? (i := 2) rfl) dJ0_coder_7d493_7 ?_
  refine wk_goto C (tgt := 14) dJ0_coder_7d493_10 (by decide) ?_
  exact E _ _ _ _ _ _ (Nat.le_refl 0) (Nat.le_refl 0) dJ0_coder_7d493_14 rfl ⟨(0 : Int32), rfl, h, hW, hE⟩
def wvJ0_isLatin1_aae02 : List Cond := .code yJ0_isLatin1_aae02 cJ0_isLatin1_aae02 1 (some .boolean) :: (([.fieldLink RJ0 38 "java/lang/String" "COMPACT_STRINGS" "Z", .fieldLink RJ0 15 "java/lang/String" "coder" "B"] : List Cond) ++ (([]) ++ ([])))
theorem gdJ0_isLatin1_aae02 : ∀ w ∈ wvJ0_isLatin1_aae02, wkGd w := wkGdC rfl (wkGdA (wkGdL (by decide +kernel)) (wkGdA (fun _ h => absurd h List.not_mem_nil) (fun _ h => absurd h List.not_mem_nil)))
def rJ0_isLatin1_aae02 (F : Nat)  (S : wPS) (Φ : (Int32 → wPS → Prop)) : Prop :=
  Φ (1 : Int32) S
set_option maxHeartbeats 4000000 in
set_option maxRecDepth 100000 in
theorem tJ0_isLatin1_aae02 {l : Launch} {g : wkG} {F : Nat}  {S : wPS} {l0A : Nat} {Φ : (Int32 → wPS → Prop)} (hstr : wkStr g) (hW : wkWF S) (hl0A : l0A = g.1 5) (h : rJ0_isLatin1_aae02 F  S Φ) : wkMet l g yJ0_isLatin1_aae02 wvJ0_isLatin1_aae02 0 0 0 [.ref l0A] S (fun v' S'' => ∃ v : Int32, v' = some (.int v) ∧ Φ v S'' ∧ wkWF S'' ∧ wkExt S S'') := by
  refine wkMet_of (ret := (some .boolean)) (by decide) rfl (Nat.le_of_ble_eq_true rfl) (fun X hg C hR E => ?_)
  subst hg
  have hE : wkExt S S := wkExt.rf
  have hd : 0 ≤ 0 := Nat.le_refl _
  show wkGo l X 1 0 0 0 S [some (.ref l0A)] []
  unfold rJ0_isLatin1_aae02 at h
  refine wk_scmp C hstr (List.mem_of_getElem? (i := 1) rfl) dJ0_isLatin1_aae02_0 ?_
  refine wk_if_eq C (tgt := 17) dJ0_isLatin1_aae02_3 (by decide) (fun c => False.elim (by revert c; decide)) (fun _ => ?_)
  refine wk_aload_n C dJ0_isLatin1_aae02_6 rfl rfl ?_
  refine wk_scod C hstr hl0A (List.mem_of_getElem? (i := 2) rfl) dJ0_isLatin1_aae02_7 ?_
  refine wk_if_ne C (tgt := 17) dJ0_isLatin1_aae02_10 (by decide) (fun c => False.elim (by revert c; decide)) (fun _ => ?_)
  refine wk_iconst C (v := 1) dJ0_isLatin1_aae02_13 (by decide) ?_
  refine wk_goto C (tgt := 18) dJ0_isLatin1_aae02_14 (by decide) ?_
  exact E _ _ _ _ _ _ (Nat.le_refl 0) (Nat.le_refl 0) dJ0_isLatin1_aae02_18 rfl ⟨(1 : Int32), rfl, h, hW, hE⟩
def wvJ1_canEncode_9a6ad : List Cond := .code yJ1_canEncode_9a6ad cJ1_canEncode_9a6ad 1 (some .boolean) :: (([] : List Cond) ++ (([]) ++ ([])))
theorem gdJ1_canEncode_9a6ad : ∀ w ∈ wvJ1_canEncode_9a6ad, wkGd w := wkGdC rfl (wkGdA (wkGdL (by decide +kernel)) (wkGdA (fun _ h => absurd h List.not_mem_nil) (fun _ h => absurd h List.not_mem_nil)))
def rJ1_canEncode_9a6ad (F : Nat) (l0I : Int32) (S : wPS) (Φ : (Int32 → wPS → Prop)) : Prop :=
  if l0I < 0 then (Φ (0 : Int32) S) else (if (255 : Int32) < l0I then (Φ (0 : Int32) S) else (Φ (1 : Int32) S))
set_option maxHeartbeats 4000000 in
set_option maxRecDepth 100000 in
theorem tJ1_canEncode_9a6ad {l : Launch} {g : wkG} {F : Nat}  {S : wPS} {l0I : Int32} {Φ : (Int32 → wPS → Prop)} (hW : wkWF S)  (h : rJ1_canEncode_9a6ad F l0I S Φ) : wkMet l g yJ1_canEncode_9a6ad wvJ1_canEncode_9a6ad 0 0 0 [.int l0I] S (fun v' S'' => ∃ v : Int32, v' = some (.int v) ∧ Φ v S'' ∧ wkWF S'' ∧ wkExt S S'') := by
  refine wkMet_of (ret := (some .boolean)) (by decide) rfl (Nat.le_of_ble_eq_true rfl) (fun X hg C hR E => ?_)
  subst hg
  have hE : wkExt S S := wkExt.rf
  have hd : 0 ≤ 0 := Nat.le_refl _
  show wkGo l X 1 0 0 0 S [some (.int l0I)] []
  unfold rJ1_canEncode_9a6ad at h
  refine wk_iload_n C dJ1_canEncode_9a6ad_0 rfl rfl ?_
  refine wk_if_lt C (tgt := 15) dJ1_canEncode_9a6ad_1 (by decide) (fun c1 => ?_) (fun c1 => ?_)
  · rw [if_pos c1] at h
    refine wk_iconst C (v := 0) dJ1_canEncode_9a6ad_15 (by decide) ?_
    exact E _ _ _ _ _ _ (Nat.le_refl 0) (Nat.le_refl 0) dJ1_canEncode_9a6ad_16 rfl ⟨(0 : Int32), rfl, h, hW, hE⟩
  · rw [if_neg c1] at h
    refine wk_iload_n C dJ1_canEncode_9a6ad_4 rfl rfl ?_
    refine wk_sipush C (v := 255) dJ1_canEncode_9a6ad_5 (by decide) ?_
    refine wk_icmp_gt C (tgt := 15) dJ1_canEncode_9a6ad_8 (by decide) (fun c2 => ?_) (fun c2 => ?_)
    · rw [if_pos c2] at h
      refine wk_iconst C (v := 0) dJ1_canEncode_9a6ad_15 (by decide) ?_
      exact E _ _ _ _ _ _ (Nat.le_refl 0) (Nat.le_refl 0) dJ1_canEncode_9a6ad_16 rfl ⟨(0 : Int32), rfl, h, hW, hE⟩
    · rw [if_neg c2] at h
      refine wk_iconst C (v := 1) dJ1_canEncode_9a6ad_11 (by decide) ?_
      refine wk_goto C (tgt := 16) dJ1_canEncode_9a6ad_12 (by decide) ?_
      exact E _ _ _ _ _ _ (Nat.le_refl 0) (Nat.le_refl 0) dJ1_canEncode_9a6ad_16 rfl ⟨(1 : Int32), rfl, h, hW, hE⟩
def wvJ1_indexOfChar_4cfef : List Cond := .code yJ1_indexOfChar_4cfef cJ1_indexOfChar_4cfef 6 (some .int) :: (([] : List Cond) ++ (([]) ++ ([])))
theorem gdJ1_indexOfChar_4cfef : ∀ w ∈ wvJ1_indexOfChar_4cfef, wkGd w := wkGdC rfl (wkGdA (wkGdL (by decide +kernel)) (wkGdA (fun _ h => absurd h List.not_mem_nil) (fun _ h => absurd h List.not_mem_nil)))
def rJ1_indexOfChar_4cfef_b0 (F : Nat) (rec : Nat → Int32 → Int32 → Int32 → wPS → (Int32 → wPS → Prop) → Prop) (l3I : Int32) (l4I : Int32) (l5I : Int32) (S : wPS) (Φ : (Int32 → wPS → Prop)) : Prop :=
  if l3I ≤ l5I then (Φ (-1 : Int32) S) else (¬ (l5I < 0 ∨ 12 ≤ (l5I).toNatClampNeg) ∧ if (wkKd (l5I).toNatClampNeg) = l4I then (Φ l5I S) else (wkLt (l5I + (1 : Int32)) fun x4 => rec 0 l3I l4I x4 S Φ))
def rJ1_indexOfChar_4cfef_go (F : Nat) : Nat → Nat → Int32 → Int32 → Int32 → wPS → (Int32 → wPS → Prop) → Prop
  | 0, _, _, _, _, _, _ => False
  | k' + 1, lab, l3I, l4I, l5I, S, Φ => if lab = 0 then rJ1_indexOfChar_4cfef_b0 F (rJ1_indexOfChar_4cfef_go F k') l3I l4I l5I S Φ else False
def rJ1_indexOfChar_4cfef_s (F : Nat) (rec : Nat → Int32 → Int32 → Int32 → wPS → (Int32 → wPS → Prop) → Prop) (l1I : Int32) (l2I : Int32) (l3I : Int32) (S : wPS) (Φ : (Int32 → wPS → Prop)) : Prop :=
  wkLt (((l1I : Int32).toInt8.toInt32)) fun x5 => rec 0 l3I x5 l2I S Φ
def rJ1_indexOfChar_4cfef (F : Nat) (l1I : Int32) (l2I : Int32) (l3I : Int32) (S : wPS) (Φ : (Int32 → wPS → Prop)) : Prop := rJ1_indexOfChar_4cfef_s F (rJ1_indexOfChar_4cfef_go F F) l1I l2I l3I S Φ
set_option maxHeartbeats 4000000 in
set_option maxRecDepth 100000 in
theorem tJ1_indexOfChar_4cfef_go {l : Launch} {X : wkX} {d F : Nat} {S0 : wPS} {Φ : (Int32 → wPS → Prop)} (hstr : wkStr (wkXg X)) (C : wkC X cJ1_indexOfChar_4cfef RJ1 6 wvJ1_indexOfChar_4cfef) (hR : wkRm X d 0 0) (hd : 0 ≤ d) (E : wkEnd l X cJ1_indexOfChar_4cfef 6 (some .int) 0 0 (fun v' S'' => ∃ v : Int32, v' = some (.int v) ∧ Φ v S'' ∧ wkWF S'' ∧ wkExt S0 S'')) : ∀ k' : Nat, (∀ (l0A : Nat) (l3I : Int32) (l4I : Int32) (l5I : Int32) (S : wPS), wkWF S → wkExt S0 S → l0A = (wkXg X).1 6 → rJ1_indexOfChar_4cfef_go F k' 0 l3I l4I l5I S Φ → wkGo l X 6 0 0 7 S [some (.ref l0A), none, none, some (.int l3I), some (.int l4I), some (.int l5I)] []) := by
  intro k'
  induction k' with
  | zero => exact fun l0A l3I l4I l5I S hW hE hl0A h => h.elim
  | succ k' ih =>
    · intro l0A l3I l4I l5I S hW hE hl0A h
      have h : rJ1_indexOfChar_4cfef_b0 F (rJ1_indexOfChar_4cfef_go F k') l3I l4I l5I S Φ := by
        rw [rJ1_indexOfChar_4cfef_go, if_pos (rfl : (0 : Nat) = 0)] at h
        exact h
      unfold rJ1_indexOfChar_4cfef_b0 at h
      refine wk_iload C dJ1_indexOfChar_4cfef_7 rfl ?_
      refine wk_iload_n C dJ1_indexOfChar_4cfef_9 rfl rfl ?_
      refine wk_icmp_ge C (tgt := 31) dJ1_indexOfChar_4cfef_10 (by decide) (fun c1 => ?_) (fun c1 => ?_)
      · rw [if_pos c1] at h
        refine wk_iconst C (v := (-1)) dJ1_indexOfChar_4cfef_31 (by decide) ?_
        exact E _ _ _ _ _ _ (Nat.le_refl 0) (Nat.le_refl 0) dJ1_indexOfChar_4cfef_32 ⟨(-1 : Int32), rfl, h, hW, hE⟩
      · rw [if_neg c1] at h
        refine wk_aload_n C dJ1_indexOfChar_4cfef_13 rfl rfl ?_
        refine wk_iload C dJ1_indexOfChar_4cfef_14 rfl ?_
        obtain ⟨i2, h⟩ := h
        refine wk_sbal C hstr hl0A i2 rfl dJ1_indexOfChar_4cfef_16 ?_
        refine wk_iload C dJ1_indexOfChar_4cfef_17 rfl ?_
        refine wk_icmp_ne C (tgt := 25) dJ1_indexOfChar_4cfef_19 (by decide) (fun c3 => ?_) (fun c3 => ?_)
        · rw [if_neg c3] at h
          obtain ⟨x4, ex4, h⟩ := wkLt_some h
          refine wk_iinc C (lv' := [some (.ref l0A), none, none, some (.int l3I), some (.int l4I), some (.int x4)]) dJ1_indexOfChar_4cfef_25 rfl (by rw [ex4]; rfl) (by decide) rfl ?_
          refine wk_goto C (tgt := 7) dJ1_indexOfChar_4cfef_28 (by decide) ?_
          exact wk_forget (lv' := [some (.ref l0A), none, none, some (.int l3I), some (.int l4I), some (.int x4)]) (wkLs.le ⟨rfl, rfl, rfl, rfl, trivial⟩) (ih _ _ _ _ _ hW hE hl0A h)
        · rw [if_pos c3] at h
          refine wk_iload C dJ1_indexOfChar_4cfef_22 rfl ?_
          exact E _ _ _ _ _ _ (Nat.le_refl 0) (Nat.le_refl 0) dJ1_indexOfChar_4cfef_24 ⟨l5I, rfl, h, hW, hE⟩
set_option maxHeartbeats 4000000 in
set_option maxRecDepth 100000 in
theorem tJ1_indexOfChar_4cfef {l : Launch} {g : wkG} {F : Nat}  {S : wPS} {l0A : Nat} {l1I : Int32} {l2I : Int32} {l3I : Int32} {Φ : (Int32 → wPS → Prop)} (hstr : wkStr g) (hW : wkWF S) (hl0A : l0A = g.1 6) (h : rJ1_indexOfChar_4cfef F l1I l2I l3I S Φ) : wkMet l g yJ1_indexOfChar_4cfef wvJ1_indexOfChar_4cfef 0 0 0 [.ref l0A, .int l1I, .int l2I, .int l3I] S (fun v' S'' => ∃ v : Int32, v' = some (.int v) ∧ Φ v S'' ∧ wkWF S'' ∧ wkExt S S'') := by
  refine wkMet_of (ret := (some .int)) (by decide) rfl (Nat.le_of_ble_eq_true rfl) (fun X hg C hR E => ?_)
  subst hg
  have hE : wkExt S S := wkExt.rf
  have hd : 0 ≤ 0 := Nat.le_refl _
  show wkGo l X 6 0 0 0 S [some (.ref l0A), some (.int l1I), some (.int l2I), some (.int l3I), none, none] []
  have ih := tJ1_indexOfChar_4cfef_go (F := F) hstr C hR hd E F
  have h : rJ1_indexOfChar_4cfef_s F (rJ1_indexOfChar_4cfef_go F F) l1I l2I l3I S Φ := h
  unfold rJ1_indexOfChar_4cfef_s at h
  refine wk_iload_n C dJ1_indexOfChar_4cfef_0 rfl rfl ?_
  refine wk_i2b C dJ1_indexOfChar_4cfef_1 rfl ?_
  obtain ⟨x5, ex5, h⟩ := wkLt_some h
  refine wk_topi ex5 ?_
  refine wk_istore C (lv' := [some (.ref l0A), some (.int l1I), some (.int l2I), some (.int l3I), some (.int x5), none]) dJ1_indexOfChar_4cfef_2 (by decide) rfl ?_
  refine wk_iload_n C dJ1_indexOfChar_4cfef_4 rfl rfl ?_
  refine wk_istore C (lv' := [some (.ref l0A), some (.int l1I), some (.int l2I), some (.int l3I), some (.int x5), some (.int l2I)]) dJ1_indexOfChar_4cfef_5 (by decide) rfl ?_
  exact wk_forget (lv' := [some (.ref l0A), none, none, some (.int l3I), some (.int x5), some (.int l2I)]) (wkLs.le ⟨rfl, rfl, rfl, rfl, trivial⟩) (ih _ _ _ _ _ hW hE hl0A h)
def wvJ7_fill_d0a16 : List Cond := .code yJ7_fill_d0a16 cJ7_fill_d0a16 5 none :: (([] : List Cond) ++ (([]) ++ ([])))
theorem gdJ7_fill_d0a16 : ∀ w ∈ wvJ7_fill_d0a16, wkGd w := wkGdC rfl (wkGdA (wkGdL (by decide +kernel)) (wkGdA (fun _ h => absurd h List.not_mem_nil) (fun _ h => absurd h List.not_mem_nil)))
def rJ7_fill_d0a16_b0 (F : Nat) (rec : Nat → Nat → Int64 → Int32 → Int32 → wPS → (Unit → wPS → Prop) → Prop) (l0A : Nat) (l1J : Int64) (l3I : Int32) (l4I : Int32) (S : wPS) (Φ : (Unit → wPS → Prop)) : Prop :=
  if l4I ≤ l3I then (Φ () S) else (¬ (l3I < 0 ∨ S.len l0A ≤ (l3I).toNatClampNeg) ∧ wkLt (wuJ S l0A l3I l1J) fun S3 => wkLt (l3I + (1 : Int32)) fun x4 => rec 0 l0A l1J x4 l4I S3 Φ)
def rJ7_fill_d0a16_go (F : Nat) : Nat → Nat → Nat → Int64 → Int32 → Int32 → wPS → (Unit → wPS → Prop) → Prop
  | 0, _, _, _, _, _, _, _ => False
  | k' + 1, lab, l0A, l1J, l3I, l4I, S, Φ => if lab = 0 then rJ7_fill_d0a16_b0 F (rJ7_fill_d0a16_go F k') l0A l1J l3I l4I S Φ else False
def rJ7_fill_d0a16_s (F : Nat) (rec : Nat → Nat → Int64 → Int32 → Int32 → wPS → (Unit → wPS → Prop) → Prop) (l0A : Nat) (l1J : Int64) (S : wPS) (Φ : (Unit → wPS → Prop)) : Prop :=
  wkLt ((Int32.ofNat (S.len l0A))) fun x5 => rec 0 l0A l1J (0 : Int32) x5 S Φ
def rJ7_fill_d0a16 (F : Nat) (l0A : Nat) (l1J : Int64) (S : wPS) (Φ : (Unit → wPS → Prop)) : Prop := rJ7_fill_d0a16_s F (rJ7_fill_d0a16_go F F) l0A l1J S Φ
set_option maxHeartbeats 4000000 in
set_option maxRecDepth 100000 in
theorem tJ7_fill_d0a16_go {l : Launch} {X : wkX} {d F : Nat} {S0 : wPS} {Φ : (Unit → wPS → Prop)} (C : wkC X cJ7_fill_d0a16 RJ7 5 wvJ7_fill_d0a16) (hR : wkRm X d 0 0) (hd : 0 ≤ d) (E : wkEnd l X cJ7_fill_d0a16 5 none 0 0 (fun v' S'' => ∃ v : Unit, v' = none ∧ Φ v S'' ∧ wkWF S'' ∧ wkExt S0 S'')) : ∀ k' : Nat, (∀ (l0A : Nat) (l1J : Int64) (l3I : Int32) (l4I : Int32) (S : wPS), wkWF S → wkExt S0 S → wkIs S l0A 14 → rJ7_fill_d0a16_go F k' 0 l0A l1J l3I l4I S Φ → wkGo l X 5 0 0 6 S [some (.ref l0A), some (.long l1J), none, some (.int l3I), some (.int l4I)] []) := by
  intro k'
  induction k' with
  | zero => exact fun l0A l1J l3I l4I S hW hE hl0A h => h.elim
  | succ k' ih =>
    · intro l0A l1J l3I l4I S hW hE hl0A h
      have h : rJ7_fill_d0a16_b0 F (rJ7_fill_d0a16_go F k') l0A l1J l3I l4I S Φ := by
        rw [rJ7_fill_d0a16_go, if_pos (rfl : (0 : Nat) = 0)] at h
        exact h
      unfold rJ7_fill_d0a16_b0 at h
      refine wk_iload_n C dJ7_fill_d0a16_6 rfl rfl ?_
      refine wk_iload C dJ7_fill_d0a16_7 rfl ?_
      refine wk_icmp_ge C (tgt := 22) dJ7_fill_d0a16_9 (by decide) (fun c1 => ?_) (fun c1 => ?_)
      · rw [if_pos c1] at h
        exact E _ _ _ _ _ (Nat.le_refl 0) (Nat.le_refl 0) dJ7_fill_d0a16_22 ⟨(), rfl, h, hW, hE⟩
      · rw [if_neg c1] at h
        refine wk_aload_n C dJ7_fill_d0a16_12 rfl rfl ?_
        refine wk_iload_n C dJ7_fill_d0a16_13 rfl rfl ?_
        refine wk_lload_n C dJ7_fill_d0a16_14 rfl rfl ?_
        obtain ⟨i2, h⟩ := h
        obtain ⟨S3, eS3, h⟩ := wkLt_some h
        refine wk_last C hl0A.1 hl0A.2 i2 eS3.symm dJ7_fill_d0a16_15 ?_
        have hWS3 : wkWF S3 := by rw [eS3]; exact hW
        have hXS3 : wkExt S S3 := by rw [eS3]; exact wkExt.rf
        obtain ⟨x4, ex4, h⟩ := wkLt_some h
        refine wk_iinc C (lv' := [some (.ref l0A), some (.long l1J), none, some (.int x4), some (.int l4I)]) dJ7_fill_d0a16_16 rfl (by rw [ex4]; rfl) (by decide) rfl ?_
        refine wk_goto C (tgt := 6) dJ7_fill_d0a16_19 (by decide) ?_
        exact wk_forget (lv' := [some (.ref l0A), some (.long l1J), none, some (.int x4), some (.int l4I)]) (wkLs.le ⟨rfl, rfl, rfl, rfl, trivial⟩) (ih _ _ _ _ _ hWS3 (wkExt.tr hE hXS3) (hXS3 _ _ hl0A) h)
set_option maxHeartbeats 4000000 in
set_option maxRecDepth 100000 in
theorem tJ7_fill_d0a16 {l : Launch} {g : wkG} {F : Nat}  {S : wPS} {l0A : Nat} {l1J : Int64} {Φ : (Unit → wPS → Prop)} (hW : wkWF S) (hl0A : wkIs S l0A 14) (h : rJ7_fill_d0a16 F l0A l1J S Φ) : wkMet l g yJ7_fill_d0a16 wvJ7_fill_d0a16 0 0 0 [.ref l0A, .long l1J] S (fun v' S'' => ∃ v : Unit, v' = none ∧ Φ v S'' ∧ wkWF S'' ∧ wkExt S S'') := by
  refine wkMet_of (ret := none) (by decide) rfl (Nat.le_of_ble_eq_true rfl) (fun X hg C hR E => ?_)
  subst hg
  have hE : wkExt S S := wkExt.rf
  have hd : 0 ≤ 0 := Nat.le_refl _
  show wkGo l X 5 0 0 0 S [some (.ref l0A), some (.long l1J), none, none, none] []
  have ih := tJ7_fill_d0a16_go (F := F) C hR hd E F
  have h : rJ7_fill_d0a16_s F (rJ7_fill_d0a16_go F F) l0A l1J S Φ := h
  unfold rJ7_fill_d0a16_s at h
  refine wk_iconst C (v := 0) dJ7_fill_d0a16_0 (by decide) ?_
  refine wk_istore_n C (lv' := [some (.ref l0A), some (.long l1J), none, some (.int (0 : Int32)), none]) dJ7_fill_d0a16_1 rfl (by decide) rfl ?_
  refine wk_aload_n C dJ7_fill_d0a16_2 rfl rfl ?_
  refine wk_llen C hl0A.1 hl0A.2 rfl dJ7_fill_d0a16_3 ?_
  obtain ⟨x5, ex5, h⟩ := wkLt_some h
  refine wk_topi ex5 ?_
  refine wk_istore C (lv' := [some (.ref l0A), some (.long l1J), none, some (.int (0 : Int32)), some (.int x5)]) dJ7_fill_d0a16_4 (by decide) rfl ?_
  exact wk_forget (lv' := [some (.ref l0A), some (.long l1J), none, some (.int (0 : Int32)), some (.int x5)]) (wkLs.le ⟨rfl, rfl, rfl, rfl, trivial⟩) (ih _ _ _ _ _ hW hE hl0A h)
def wvJ7_fill_53178 : List Cond := .code yJ7_fill_53178 cJ7_fill_53178 4 none :: (([] : List Cond) ++ (([]) ++ ([])))
theorem gdJ7_fill_53178 : ∀ w ∈ wvJ7_fill_53178, wkGd w := wkGdC rfl (wkGdA (wkGdL (by decide +kernel)) (wkGdA (fun _ h => absurd h List.not_mem_nil) (fun _ h => absurd h List.not_mem_nil)))
def rJ7_fill_53178_b0 (F : Nat) (rec : Nat → Nat → Int32 → Int32 → Int32 → wPS → (Unit → wPS → Prop) → Prop) (l0A : Nat) (l1I : Int32) (l2I : Int32) (l3I : Int32) (S : wPS) (Φ : (Unit → wPS → Prop)) : Prop :=
  if l3I ≤ l2I then (Φ () S) else (¬ (l2I < 0 ∨ S.len l0A ≤ (l2I).toNatClampNeg) ∧ wkLt (wuI S l0A l2I l1I) fun S3 => wkLt (l2I + (1 : Int32)) fun x4 => rec 0 l0A l1I x4 l3I S3 Φ)
def rJ7_fill_53178_go (F : Nat) : Nat → Nat → Nat → Int32 → Int32 → Int32 → wPS → (Unit → wPS → Prop) → Prop
  | 0, _, _, _, _, _, _, _ => False
  | k' + 1, lab, l0A, l1I, l2I, l3I, S, Φ => if lab = 0 then rJ7_fill_53178_b0 F (rJ7_fill_53178_go F k') l0A l1I l2I l3I S Φ else False
def rJ7_fill_53178_s (F : Nat) (rec : Nat → Nat → Int32 → Int32 → Int32 → wPS → (Unit → wPS → Prop) → Prop) (l0A : Nat) (l1I : Int32) (S : wPS) (Φ : (Unit → wPS → Prop)) : Prop :=
  wkLt ((Int32.ofNat (S.len l0A))) fun x5 => rec 0 l0A l1I (0 : Int32) x5 S Φ
def rJ7_fill_53178 (F : Nat) (l0A : Nat) (l1I : Int32) (S : wPS) (Φ : (Unit → wPS → Prop)) : Prop := rJ7_fill_53178_s F (rJ7_fill_53178_go F F) l0A l1I S Φ
set_option maxHeartbeats 4000000 in
set_option maxRecDepth 100000 in
theorem tJ7_fill_53178_go {l : Launch} {X : wkX} {d F : Nat} {S0 : wPS} {Φ : (Unit → wPS → Prop)} (C : wkC X cJ7_fill_53178 RJ7 4 wvJ7_fill_53178) (hR : wkRm X d 0 0) (hd : 0 ≤ d) (E : wkEnd l X cJ7_fill_53178 4 none 0 0 (fun v' S'' => ∃ v : Unit, v' = none ∧ Φ v S'' ∧ wkWF S'' ∧ wkExt S0 S'')) : ∀ k' : Nat, (∀ (l0A : Nat) (l1I : Int32) (l2I : Int32) (l3I : Int32) (S : wPS), wkWF S → wkExt S0 S → wkIs S l0A 13 → rJ7_fill_53178_go F k' 0 l0A l1I l2I l3I S Φ → wkGo l X 4 0 0 5 S [some (.ref l0A), some (.int l1I), some (.int l2I), some (.int l3I)] []) := by
  intro k'
  induction k' with
  | zero => exact fun l0A l1I l2I l3I S hW hE hl0A h => h.elim
  | succ k' ih =>
    · intro l0A l1I l2I l3I S hW hE hl0A h
      have h : rJ7_fill_53178_b0 F (rJ7_fill_53178_go F k') l0A l1I l2I l3I S Φ := by
        rw [rJ7_fill_53178_go, if_pos (rfl : (0 : Nat) = 0)] at h
        exact h
      unfold rJ7_fill_53178_b0 at h
      refine wk_iload_n C dJ7_fill_53178_5 rfl rfl ?_
      refine wk_iload_n C dJ7_fill_53178_6 rfl rfl ?_
      refine wk_icmp_ge C (tgt := 20) dJ7_fill_53178_7 (by decide) (fun c1 => ?_) (fun c1 => ?_)
      · rw [if_pos c1] at h
        exact E _ _ _ _ _ (Nat.le_refl 0) (Nat.le_refl 0) dJ7_fill_53178_20 ⟨(), rfl, h, hW, hE⟩
      · rw [if_neg c1] at h
        refine wk_aload_n C dJ7_fill_53178_10 rfl rfl ?_
        refine wk_iload_n C dJ7_fill_53178_11 rfl rfl ?_
        refine wk_iload_n C dJ7_fill_53178_12 rfl rfl ?_
        obtain ⟨i2, h⟩ := h
        obtain ⟨S3, eS3, h⟩ := wkLt_some h
        refine wk_iast C hl0A.1 hl0A.2 i2 eS3.symm dJ7_fill_53178_13 ?_
        have hWS3 : wkWF S3 := by rw [eS3]; exact hW
        have hXS3 : wkExt S S3 := by rw [eS3]; exact wkExt.rf
        obtain ⟨x4, ex4, h⟩ := wkLt_some h
        refine wk_iinc C (lv' := [some (.ref l0A), some (.int l1I), some (.int x4), some (.int l3I)]) dJ7_fill_53178_14 rfl (by rw [ex4]; rfl) (by decide) rfl ?_
        refine wk_goto C (tgt := 5) dJ7_fill_53178_17 (by decide) ?_
        exact wk_forget (lv' := [some (.ref l0A), some (.int l1I), some (.int x4), some (.int l3I)]) (wkLs.le ⟨rfl, rfl, rfl, rfl, trivial⟩) (ih _ _ _ _ _ hWS3 (wkExt.tr hE hXS3) (hXS3 _ _ hl0A) h)
set_option maxHeartbeats 4000000 in
set_option maxRecDepth 100000 in
theorem tJ7_fill_53178 {l : Launch} {g : wkG} {F : Nat}  {S : wPS} {l0A : Nat} {l1I : Int32} {Φ : (Unit → wPS → Prop)} (hW : wkWF S) (hl0A : wkIs S l0A 13) (h : rJ7_fill_53178 F l0A l1I S Φ) : wkMet l g yJ7_fill_53178 wvJ7_fill_53178 0 0 0 [.ref l0A, .int l1I] S (fun v' S'' => ∃ v : Unit, v' = none ∧ Φ v S'' ∧ wkWF S'' ∧ wkExt S S'') := by
  refine wkMet_of (ret := none) (by decide) rfl (Nat.le_of_ble_eq_true rfl) (fun X hg C hR E => ?_)
  subst hg
  have hE : wkExt S S := wkExt.rf
  have hd : 0 ≤ 0 := Nat.le_refl _
  show wkGo l X 4 0 0 0 S [some (.ref l0A), some (.int l1I), none, none] []
  have ih := tJ7_fill_53178_go (F := F) C hR hd E F
  have h : rJ7_fill_53178_s F (rJ7_fill_53178_go F F) l0A l1I S Φ := h
  unfold rJ7_fill_53178_s at h
  refine wk_iconst C (v := 0) dJ7_fill_53178_0 (by decide) ?_
  refine wk_istore_n C (lv' := [some (.ref l0A), some (.int l1I), some (.int (0 : Int32)), none]) dJ7_fill_53178_1 rfl (by decide) rfl ?_
  refine wk_aload_n C dJ7_fill_53178_2 rfl rfl ?_
  refine wk_ilen C hl0A.1 hl0A.2 rfl dJ7_fill_53178_3 ?_
  obtain ⟨x5, ex5, h⟩ := wkLt_some h
  refine wk_topi ex5 ?_
  refine wk_istore_n C (lv' := [some (.ref l0A), some (.int l1I), some (.int (0 : Int32)), some (.int x5)]) dJ7_fill_53178_4 rfl (by decide) rfl ?_
  exact wk_forget (lv' := [some (.ref l0A), some (.int l1I), some (.int (0 : Int32)), some (.int x5)]) (wkLs.le ⟨rfl, rfl, rfl, rfl, trivial⟩) (ih _ _ _ _ _ hW hE hl0A h)
def wvJ7_copyOf_59c91 : List Cond := .code yJ7_copyOf_59c91 cJ7_copyOf_59c91 3 (some (.array .int)) :: (([.arrayClass .int, .methodLink RJ7 304 Lib.Math.min.name, .static Lib.Math.min.name, .initialized "java/lang/Math", .code Lib.Math.min.name Lib.Math.min.code 2 (some .int), .methodLink RJ7 150 arraycopyName, .native arraycopyName, .static arraycopyName, .initialized "java/lang/System"] : List Cond) ++ (([]) ++ ([])))
theorem gdJ7_copyOf_59c91 : ∀ w ∈ wvJ7_copyOf_59c91, wkGd w := wkGdC rfl (wkGdA (wkGdL (by decide +kernel)) (wkGdA (fun _ h => absurd h List.not_mem_nil) (fun _ h => absurd h List.not_mem_nil)))
def rJ7_copyOf_59c91 (F : Nat) (k n : Nat) (l0A : Nat) (l1I : Int32) (S : wPS) (Φ : (Nat → wPS → Prop)) : Prop :=
  if l1I = (Int32.ofNat (S.len l0A)) then (False) else (¬ l1I < 0 ∧ 0 + 1 ≤ k ∧ 0 + (l1I).toNatClampNeg ≤ n ∧ (l1I).toNatClampNeg * 4 ≤ 536870912 ∧ ∀ q3 : Nat, ¬ q3 ∈ S.L → wkLt (wnI S q3 13 (l1I).toNatClampNeg (fun _ => 0)) fun S4 => ¬ (0 : Int32) < 0 ∧ ¬ (0 : Int32) < 0 ∧ ¬ (if l1I < (Int32.ofNat (S4.len l0A)) then l1I else (Int32.ofNat (S4.len l0A))) < 0 ∧ ((0 : Int32)).toNatClampNeg + ((if l1I < (Int32.ofNat (S4.len l0A)) then l1I else (Int32.ofNat (S4.len l0A)))).toNatClampNeg ≤ S4.len l0A ∧ ((0 : Int32)).toNatClampNeg + ((if l1I < (Int32.ofNat (S4.len l0A)) then l1I else (Int32.ofNat (S4.len l0A)))).toNatClampNeg ≤ S4.len q3 ∧ wkLt (wuRI S4 q3 (va_cpy (S4.rI l0A) (S4.rI q3) ((0 : Int32)).toNatClampNeg ((0 : Int32)).toNatClampNeg ((if l1I < (Int32.ofNat (S4.len l0A)) then l1I else (Int32.ofNat (S4.len l0A)))).toNatClampNeg)) fun S6 => Φ q3 S6)
set_option maxHeartbeats 4000000 in
set_option maxRecDepth 100000 in
theorem tJ7_copyOf_59c91 {l : Launch} {g : wkG} {F : Nat} {k n : Nat}  {S : wPS} {l0A : Nat} {l1I : Int32} {Φ : (Nat → wPS → Prop)} (hW : wkWF S) (hl0A : wkIs S l0A 13) (h : rJ7_copyOf_59c91 F k n l0A l1I S Φ) : wkMet l g yJ7_copyOf_59c91 wvJ7_copyOf_59c91 1 k n [.ref l0A, .int l1I] S (fun v' S'' => ∃ v : Nat, v' = some (.ref v) ∧ Φ v S'' ∧ wkWF S'' ∧ wkExt S S'' ∧ wkIs S'' v 13) := by
  refine wkMet_of (ret := (some (.array .int))) (by decide) rfl (Nat.le_of_ble_eq_true rfl) (fun X hg C hR E => ?_)
  subst hg
  have hE : wkExt S S := wkExt.rf
  have hd : 1 ≤ 1 := Nat.le_refl _
  show wkGo l X 3 0 0 0 S [some (.ref l0A), some (.int l1I), none] []
  unfold rJ7_copyOf_59c91 at h
  refine wk_iload_n C dJ7_copyOf_59c91_0 rfl rfl ?_
  refine wk_aload_n C dJ7_copyOf_59c91_1 rfl rfl ?_
  refine wk_ilen C hl0A.1 hl0A.2 rfl dJ7_copyOf_59c91_2 ?_
  refine wk_icmp_ne C (tgt := 14) dJ7_copyOf_59c91_3 (by decide) (fun c1 => ?_) (fun c1 => ?_)
  · rw [if_neg c1] at h
    refine wk_iload_n C dJ7_copyOf_59c91_14 rfl rfl ?_
    obtain ⟨h2a, h2b, h2c, h2d, h⟩ := h
    refine wk_newI C hR (List.mem_of_getElem? (i := 1) rfl) h2a h2b h2c h2d dJ7_copyOf_59c91_15 (fun q3 h2e => ?_)
    obtain ⟨S4, eS4, h⟩ := wkLt_some (h q3 h2e)
    rw [← eS4]
    obtain ⟨hWS4, hXS4, hIS4⟩ := wkWF_newI eS4 hW h2e
    refine wk_astore_n C (lv' := [some (.ref l0A), some (.int l1I), some (.ref q3)]) dJ7_copyOf_59c91_17 rfl (by decide) rfl ?_
    refine wk_aload_n C dJ7_copyOf_59c91_18 rfl rfl ?_
    refine wk_iconst C (v := 0) dJ7_copyOf_59c91_19 (by decide) ?_
    refine wk_aload_n C dJ7_copyOf_59c91_20 rfl rfl ?_
    refine wk_iconst C (v := 0) dJ7_copyOf_59c91_21 (by decide) ?_
    refine wk_aload_n C dJ7_copyOf_59c91_22 rfl rfl ?_
    refine wk_ilen C (hXS4 _ _ hl0A).1 (hXS4 _ _ hl0A).2 rfl dJ7_copyOf_59c91_23 ?_
    refine wk_iload_n C dJ7_copyOf_59c91_24 rfl rfl ?_
    refine wk_mmin C hR (List.mem_of_getElem? (i := 2) rfl) (List.mem_of_getElem? (i := 3) rfl) (List.mem_of_getElem? (i := 4) rfl) (List.mem_of_getElem? (i := 5) rfl) (Nat.le_trans (by decide) hd) h2b h2c (Nat.le_of_ble_eq_true rfl) rfl dJ7_copyOf_59c91_25 ?_
    obtain ⟨y5a, y5b, y5c, y5d, y5e, h⟩ := h
    obtain ⟨S6, eS6, h⟩ := wkLt_some h
    refine wk_copyI C hR (List.mem_of_getElem? (i := 6) rfl) (List.mem_of_getElem? (i := 7) rfl) (List.mem_of_getElem? (i := 8) rfl) (List.mem_of_getElem? (i := 9) rfl) (Nat.le_trans (by decide) hd) (hXS4 _ _ hl0A).1 (hXS4 _ _ hl0A).2 hIS4.1 hIS4.2 y5a y5b y5c y5d y5e (Nat.le_of_ble_eq_true rfl) eS6.symm dJ7_copyOf_59c91_28 ?_
    have hWS6 : wkWF S6 := by rw [eS6]; exact hWS4
    have hXS6 : wkExt S4 S6 := by rw [eS6]; exact wkExt.rf
    refine wk_aload_n C dJ7_copyOf_59c91_31 rfl rfl ?_
    exact E _ _ _ _ _ _ h2b h2c dJ7_copyOf_59c91_32 ⟨q3, rfl, h, hWS6, (wkExt.tr (wkExt.tr hE hXS4) hXS6), (hXS6 _ _ hIS4)⟩
  · rw [if_pos c1] at h
    refine wk_aload_n C dJ7_copyOf_59c91_6 rfl rfl ?_
    exact h.elim
def wvJ3_checkIndex_8e157 : List Cond := .code yJ3_checkIndex_8e157 cJ3_checkIndex_8e157 3 (some .int) :: (([] : List Cond) ++ (([]) ++ ([])))
theorem gdJ3_checkIndex_8e157 : ∀ w ∈ wvJ3_checkIndex_8e157, wkGd w := wkGdC rfl (wkGdA (wkGdL (by decide +kernel)) (wkGdA (fun _ h => absurd h List.not_mem_nil) (fun _ h => absurd h List.not_mem_nil)))
def rJ3_checkIndex_8e157 (F : Nat) (l0I : Int32) (l1I : Int32) (S : wPS) (Φ : (Int32 → wPS → Prop)) : Prop :=
  if l0I < 0 then (False) else (if l0I < l1I then (Φ l0I S) else (False))
set_option maxHeartbeats 4000000 in
set_option maxRecDepth 100000 in
theorem tJ3_checkIndex_8e157 {l : Launch} {g : wkG} {F : Nat}  {S : wPS} {l0I : Int32} {l1I : Int32} {l2A : Nat} {Φ : (Int32 → wPS → Prop)} (hW : wkWF S) (hl2A : l2A = g.1 7) (h : rJ3_checkIndex_8e157 F l0I l1I S Φ) : wkMet l g yJ3_checkIndex_8e157 wvJ3_checkIndex_8e157 0 0 0 [.int l0I, .int l1I, .ref l2A] S (fun v' S'' => ∃ v : Int32, v' = some (.int v) ∧ Φ v S'' ∧ wkWF S'' ∧ wkExt S S'') := by
  refine wkMet_of (ret := (some .int)) (by decide) rfl (Nat.le_of_ble_eq_true rfl) (fun X hg C hR E => ?_)
  subst hg
  have hE : wkExt S S := wkExt.rf
  have hd : 0 ≤ 0 := Nat.le_refl _
  show wkGo l X 3 0 0 0 S [some (.int l0I), some (.int l1I), some (.ref l2A)] []
  unfold rJ3_checkIndex_8e157 at h
  refine wk_iload_n C dJ3_checkIndex_8e157_0 rfl rfl ?_
  refine wk_if_lt C (tgt := 9) dJ3_checkIndex_8e157_1 (by decide) (fun c1 => ?_) (fun c1 => ?_)
  · rw [if_pos c1] at h
    refine wk_aload_n C dJ3_checkIndex_8e157_9 rfl rfl ?_
    refine wk_iload_n C dJ3_checkIndex_8e157_10 rfl rfl ?_
    refine wk_iload_n C dJ3_checkIndex_8e157_11 rfl rfl ?_
    exact h.elim
  · rw [if_neg c1] at h
    refine wk_iload_n C dJ3_checkIndex_8e157_4 rfl rfl ?_
    refine wk_iload_n C dJ3_checkIndex_8e157_5 rfl rfl ?_
    refine wk_icmp_lt C (tgt := 16) dJ3_checkIndex_8e157_6 (by decide) (fun c2 => ?_) (fun c2 => ?_)
    · rw [if_pos c2] at h
      refine wk_iload_n C dJ3_checkIndex_8e157_16 rfl rfl ?_
      exact E _ _ _ _ _ _ (Nat.le_refl 0) (Nat.le_refl 0) dJ3_checkIndex_8e157_17 ⟨l0I, rfl, h, hW, hE⟩
    · rw [if_neg c2] at h
      refine wk_aload_n C dJ3_checkIndex_8e157_9 rfl rfl ?_
      refine wk_iload_n C dJ3_checkIndex_8e157_10 rfl rfl ?_
      refine wk_iload_n C dJ3_checkIndex_8e157_11 rfl rfl ?_
      exact h.elim
set_option maxHeartbeats 4000000 in
set_option maxRecDepth 100000 in
theorem tJ3_checkIndex_8e157_n {l : Launch} {g : wkG} {F : Nat}  {S : wPS} {l0I : Int32} {l1I : Int32} {Φ : (Int32 → wPS → Prop)} (hW : wkWF S) (h : rJ3_checkIndex_8e157 F l0I l1I S Φ) : wkMet l g yJ3_checkIndex_8e157 wvJ3_checkIndex_8e157 0 0 0 [.int l0I, .int l1I, .null] S (fun v' S'' => ∃ v : Int32, v' = some (.int v) ∧ Φ v S'' ∧ wkWF S'' ∧ wkExt S S'') := by
  refine wkMet_of (ret := (some .int)) (by decide) rfl (Nat.le_of_ble_eq_true rfl) (fun X hg C hR E => ?_)
  subst hg
  have hE : wkExt S S := wkExt.rf
  have hd : 0 ≤ 0 := Nat.le_refl _
  show wkGo l X 3 0 0 0 S [some (.int l0I), some (.int l1I), some (.null)] []
  unfold rJ3_checkIndex_8e157 at h
  refine wk_iload_n C dJ3_checkIndex_8e157_0 rfl rfl ?_
  refine wk_if_lt C (tgt := 9) dJ3_checkIndex_8e157_1 (by decide) (fun c1 => ?_) (fun c1 => ?_)
  · rw [if_pos c1] at h
    exact h.elim
  · rw [if_neg c1] at h
    refine wk_iload_n C dJ3_checkIndex_8e157_4 rfl rfl ?_
    refine wk_iload_n C dJ3_checkIndex_8e157_5 rfl rfl ?_
    refine wk_icmp_lt C (tgt := 16) dJ3_checkIndex_8e157_6 (by decide) (fun c2 => ?_) (fun c2 => ?_)
    · rw [if_pos c2] at h
      refine wk_iload_n C dJ3_checkIndex_8e157_16 rfl rfl ?_
      exact E _ _ _ _ _ _ (Nat.le_refl 0) (Nat.le_refl 0) dJ3_checkIndex_8e157_17 ⟨l0I, rfl, h, hW, hE⟩
    · rw [if_neg c2] at h
      exact h.elim
