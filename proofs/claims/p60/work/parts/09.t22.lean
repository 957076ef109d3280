def wvX11_restOfPower : List Cond := .code yX11_restOfPower cX11_restOfPower 9 (some .int) :: (([] : List Cond) ++ (([]) ++ ([])))
theorem gdX11_restOfPower : ∀ w ∈ wvX11_restOfPower, wkGd w := wkGdC rfl (wkGdA (wkGdL (by decide +kernel)) (wkGdA (fun _ h => absurd h List.not_mem_nil) (fun _ h => absurd h List.not_mem_nil)))
def rX11_restOfPower_b0 (F : Nat) (rec : Nat → Int32 → Int64 → Int64 → Int32 → Int32 → wPS → (Int32 → wPS → Prop) → Prop) (l2I : Int32) (l3J : Int64) (l5J : Int64) (l7I : Int32) (l8I : Int32) (S : wPS) (Φ : (Int32 → wPS → Prop)) : Prop :=
  if (31 : Int32) ≤ l8I then (Φ (Int64.toInt32 l3J) S) else (if l7I ≤ 0 then (Φ (Int64.toInt32 l3J) S) else (if (l7I &&& (1 : Int32)) = (1 : Int32) then (¬ (Int32.toInt64 l2I) = 0 ∧ wkLt (((l3J * l5J) - (l3J * l5J) / (Int32.toInt64 l2I) * (Int32.toInt64 l2I))) fun x9 => ¬ (Int32.toInt64 l2I) = 0 ∧ wkLt (((l5J * l5J) - (l5J * l5J) / (Int32.toInt64 l2I) * (Int32.toInt64 l2I))) fun x11 => wkLt ((l7I >>> ((1 : Int32) &&& 31))) fun x12 => wkLt (l8I + (1 : Int32)) fun x13 => rec 0 l2I x9 x11 x12 x13 S Φ) else (¬ (Int32.toInt64 l2I) = 0 ∧ wkLt (((l5J * l5J) - (l5J * l5J) / (Int32.toInt64 l2I) * (Int32.toInt64 l2I))) fun x5 => wkLt ((l7I >>> ((1 : Int32) &&& 31))) fun x6 => wkLt (l8I + (1 : Int32)) fun x7 => rec 0 l2I l3J x5 x6 x7 S Φ)))
def rX11_restOfPower_go (F : Nat) : Nat → Nat → Int32 → Int64 → Int64 → Int32 → Int32 → wPS → (Int32 → wPS → Prop) → Prop
  | 0, _, _, _, _, _, _, _, _ => False
  | k' + 1, lab, l2I, l3J, l5J, l7I, l8I, S, Φ => if lab = 0 then rX11_restOfPower_b0 F (rX11_restOfPower_go F k') l2I l3J l5J l7I l8I S Φ else False
def rX11_restOfPower_s (F : Nat) (rec : Nat → Int32 → Int64 → Int64 → Int32 → Int32 → wPS → (Int32 → wPS → Prop) → Prop) (l0I : Int32) (l1I : Int32) (l2I : Int32) (S : wPS) (Φ : (Int32 → wPS → Prop)) : Prop :=
  if (1 : Int32) ≤ l2I then (¬ l2I = 0 ∧ wkLt ((Int32.toInt64 ((1 : Int32) - (1 : Int32) / l2I * l2I))) fun x16 => ¬ l2I = 0 ∧ wkLt ((Int32.toInt64 (l0I - l0I / l2I * l2I))) fun x18 => rec 0 l2I x16 x18 l1I (0 : Int32) S Φ) else (Φ (0 : Int32) S)
def rX11_restOfPower (F : Nat) (l0I : Int32) (l1I : Int32) (l2I : Int32) (S : wPS) (Φ : (Int32 → wPS → Prop)) : Prop := rX11_restOfPower_s F (rX11_restOfPower_go F F) l0I l1I l2I S Φ
set_option maxHeartbeats 4000000 in
set_option maxRecDepth 100000 in
theorem tX11_restOfPower_go {l : Launch} {X : wkX} {d F : Nat} {S0 : wPS} {Φ : (Int32 → wPS → Prop)} (C : wkC X cX11_restOfPower RX11 9 wvX11_restOfPower) (hR : wkRm X d 0 0) (hd : 0 ≤ d) (E : wkEnd l X cX11_restOfPower 9 (some .int) 0 0 (fun v' S'' => ∃ v : Int32, v' = some (.int v) ∧ Φ v S'' ∧ wkWF S'' ∧ wkExt S0 S'')) : ∀ k' : Nat, (∀ (l2I : Int32) (l3J : Int64) (l5J : Int64) (l7I : Int32) (l8I : Int32) (S : wPS), wkWF S → wkExt S0 S → rX11_restOfPower_go F k' 0 l2I l3J l5J l7I l8I S Φ → wkGo l X 9 0 0 24 S [none, none, some (.int l2I), some (.long l3J), none, some (.long l5J), none, some (.int l7I), some (.int l8I)] []) := by
  intro k'
  induction k' with
  | zero => exact fun l2I l3J l5J l7I l8I S hW hE  h => h.elim
  | succ k' ih =>
    · intro l2I l3J l5J l7I l8I S hW hE  h
      have h : rX11_restOfPower_b0 F (rX11_restOfPower_go F k') l2I l3J l5J l7I l8I S Φ := by
        rw [rX11_restOfPower_go, if_pos (rfl : (0 : Nat) = 0)] at h
        exact h
      unfold rX11_restOfPower_b0 at h
      refine wk_iload C dX11_restOfPower_24 rfl ?_
      refine wk_bipush C (v := 31) dX11_restOfPower_26 (by decide) ?_
      refine wk_icmp_ge C (tgt := 74) dX11_restOfPower_28 (by decide) (fun c1 => ?_) (fun c1 => ?_)
      · rw [if_pos c1] at h
        refine wk_lload_n C dX11_restOfPower_74 rfl rfl ?_
        refine wk_l2i C dX11_restOfPower_75 rfl ?_
        exact E _ _ _ _ _ _ (Nat.le_refl 0) (Nat.le_refl 0) dX11_restOfPower_76 ⟨(Int64.toInt32 l3J), rfl, h, hW, hE⟩
      · rw [if_neg c1] at h
        refine wk_iload C dX11_restOfPower_31 rfl ?_
        refine wk_if_le C (tgt := 74) dX11_restOfPower_33 (by decide) (fun c2 => ?_) (fun c2 => ?_)
        · rw [if_pos c2] at h
          refine wk_lload_n C dX11_restOfPower_74 rfl rfl ?_
          refine wk_l2i C dX11_restOfPower_75 rfl ?_
          exact E _ _ _ _ _ _ (Nat.le_refl 0) (Nat.le_refl 0) dX11_restOfPower_76 ⟨(Int64.toInt32 l3J), rfl, h, hW, hE⟩
        · rw [if_neg c2] at h
          refine wk_iload C dX11_restOfPower_36 rfl ?_
          refine wk_iconst C (v := 1) dX11_restOfPower_38 (by decide) ?_
          refine wk_iand C dX11_restOfPower_39 rfl ?_
          refine wk_iconst C (v := 1) dX11_restOfPower_40 (by decide) ?_
          refine wk_icmp_ne C (tgt := 52) dX11_restOfPower_41 (by decide) (fun c3 => ?_) (fun c3 => ?_)
          · rw [if_neg c3] at h
            refine wk_lload C dX11_restOfPower_52 rfl ?_
            refine wk_lload C dX11_restOfPower_54 rfl ?_
            refine wk_lmul C dX11_restOfPower_56 rfl ?_
            refine wk_iload_n C dX11_restOfPower_57 rfl rfl ?_
            refine wk_i2l C dX11_restOfPower_58 rfl ?_
            obtain ⟨z4, h⟩ := h
            refine wk_lrem C dX11_restOfPower_59 z4 rfl ?_
            obtain ⟨x5, ex5, h⟩ := wkLt_some h
            refine wk_topl ex5 ?_
            refine wk_lstore C (lv' := [none, none, some (.int l2I), some (.long l3J), none, some (.long x5), none, some (.int l7I), some (.int l8I)]) dX11_restOfPower_60 (by decide) rfl ?_
            refine wk_iload C dX11_restOfPower_62 rfl ?_
            refine wk_iconst C (v := 1) dX11_restOfPower_64 (by decide) ?_
            refine wk_ishr C dX11_restOfPower_65 rfl ?_
            obtain ⟨x6, ex6, h⟩ := wkLt_some h
            refine wk_topi ex6 ?_
            refine wk_istore C (lv' := [none, none, some (.int l2I), some (.long l3J), none, some (.long x5), none, some (.int x6), some (.int l8I)]) dX11_restOfPower_66 (by decide) rfl ?_
            obtain ⟨x7, ex7, h⟩ := wkLt_some h
            refine wk_iinc C (lv' := [none, none, some (.int l2I), some (.long l3J), none, some (.long x5), none, some (.int x6), some (.int x7)]) dX11_restOfPower_68 rfl (by rw [ex7]; rfl) (by decide) rfl ?_
            refine wk_goto C (tgt := 24) dX11_restOfPower_71 (by decide) ?_
            exact wk_forget (lv' := [none, none, some (.int l2I), some (.long l3J), none, some (.long x5), none, some (.int x6), some (.int x7)]) (wkLs.le ⟨rfl, rfl, rfl, rfl, rfl, trivial⟩) (ih _ _ _ _ _ _ hW hE  h)
          · rw [if_pos c3] at h
            refine wk_lload_n C dX11_restOfPower_44 rfl rfl ?_
            refine wk_lload C dX11_restOfPower_45 rfl ?_
            refine wk_lmul C dX11_restOfPower_47 rfl ?_
            refine wk_iload_n C dX11_restOfPower_48 rfl rfl ?_
            refine wk_i2l C dX11_restOfPower_49 rfl ?_
            obtain ⟨z8, h⟩ := h
            refine wk_lrem C dX11_restOfPower_50 z8 rfl ?_
            obtain ⟨x9, ex9, h⟩ := wkLt_some h
            refine wk_topl ex9 ?_
            refine wk_lstore_n C (lv' := [none, none, some (.int l2I), some (.long x9), none, some (.long l5J), none, some (.int l7I), some (.int l8I)]) dX11_restOfPower_51 rfl (by decide) rfl ?_
            refine wk_lload C dX11_restOfPower_52 rfl ?_
            refine wk_lload C dX11_restOfPower_54 rfl ?_
            refine wk_lmul C dX11_restOfPower_56 rfl ?_
            refine wk_iload_n C dX11_restOfPower_57 rfl rfl ?_
            refine wk_i2l C dX11_restOfPower_58 rfl ?_
            obtain ⟨z10, h⟩ := h
            refine wk_lrem C dX11_restOfPower_59 z10 rfl ?_
            obtain ⟨x11, ex11, h⟩ := wkLt_some h
            refine wk_topl ex11 ?_
            refine wk_lstore C (lv' := [none, none, some (.int l2I), some (.long x9), none, some (.long x11), none, some (.int l7I), some (.int l8I)]) dX11_restOfPower_60 (by decide) rfl ?_
            refine wk_iload C dX11_restOfPower_62 rfl ?_
            refine wk_iconst C (v := 1) dX11_restOfPower_64 (by decide) ?_
            refine wk_ishr C dX11_restOfPower_65 rfl ?_
            obtain ⟨x12, ex12, h⟩ := wkLt_some h
            refine wk_topi ex12 ?_
            refine wk_istore C (lv' := [none, none, some (.int l2I), some (.long x9), none, some (.long x11), none, some (.int x12), some (.int l8I)]) dX11_restOfPower_66 (by decide) rfl ?_
            obtain ⟨x13, ex13, h⟩ := wkLt_some h
            refine wk_iinc C (lv' := [none, none, some (.int l2I), some (.long x9), none, some (.long x11), none, some (.int x12), some (.int x13)]) dX11_restOfPower_68 rfl (by rw [ex13]; rfl) (by decide) rfl ?_
            refine wk_goto C (tgt := 24) dX11_restOfPower_71 (by decide) ?_
            exact wk_forget (lv' := [none, none, some (.int l2I), some (.long x9), none, some (.long x11), none, some (.int x12), some (.int x13)]) (wkLs.le ⟨rfl, rfl, rfl, rfl, rfl, trivial⟩) (ih _ _ _ _ _ _ hW hE  h)
set_option maxHeartbeats 4000000 in
set_option maxRecDepth 100000 in
theorem tX11_restOfPower {l : Launch} {g : wkG} {F : Nat}  {S : wPS} {l0I : Int32} {l1I : Int32} {l2I : Int32} {Φ : (Int32 → wPS → Prop)} (hW : wkWF S)  (h : rX11_restOfPower F l0I l1I l2I S Φ) : wkMet l g yX11_restOfPower wvX11_restOfPower 0 0 0 [.int l0I, .int l1I, .int l2I] S (fun v' S'' => ∃ v : Int32, v' = some (.int v) ∧ Φ v S'' ∧ wkWF S'' ∧ wkExt S S'') := by
  refine wkMet_of (ret := (some .int)) (by decide) rfl (Nat.le_of_ble_eq_true rfl) (fun X hg C hR E => ?_)
  subst hg
  have hE : wkExt S S := wkExt.rf
  have hd : 0 ≤ 0 := Nat.le_refl _
  show wkGo l X 9 0 0 0 S [some (.int l0I), some (.int l1I), some (.int l2I), none, none, none, none, none, none] []
  have ih := tX11_restOfPower_go (F := F) C hR hd E F
  have h : rX11_restOfPower_s F (rX11_restOfPower_go F F) l0I l1I l2I S Φ := h
  unfold rX11_restOfPower_s at h
  refine wk_iload_n C dX11_restOfPower_0 rfl rfl ?_
  refine wk_iconst C (v := 1) dX11_restOfPower_1 (by decide) ?_
  refine wk_icmp_ge C (tgt := 7) dX11_restOfPower_2 (by decide) (fun c14 => ?_) (fun c14 => ?_)
  · rw [if_pos c14] at h
    refine wk_iconst C (v := 1) dX11_restOfPower_7 (by decide) ?_
    refine wk_iload_n C dX11_restOfPower_8 rfl rfl ?_
    obtain ⟨z15, h⟩ := h
    refine wk_irem C dX11_restOfPower_9 z15 rfl ?_
    refine wk_i2l C dX11_restOfPower_10 rfl ?_
    obtain ⟨x16, ex16, h⟩ := wkLt_some h
    refine wk_topl ex16 ?_
    refine wk_lstore_n C (lv' := [some (.int l0I), some (.int l1I), some (.int l2I), some (.long x16), none, none, none, none, none]) dX11_restOfPower_11 rfl (by decide) rfl ?_
    refine wk_iload_n C dX11_restOfPower_12 rfl rfl ?_
    refine wk_iload_n C dX11_restOfPower_13 rfl rfl ?_
    obtain ⟨z17, h⟩ := h
    refine wk_irem C dX11_restOfPower_14 z17 rfl ?_
    refine wk_i2l C dX11_restOfPower_15 rfl ?_
    obtain ⟨x18, ex18, h⟩ := wkLt_some h
    refine wk_topl ex18 ?_
    refine wk_lstore C (lv' := [some (.int l0I), some (.int l1I), some (.int l2I), some (.long x16), none, some (.long x18), none, none, none]) dX11_restOfPower_16 (by decide) rfl ?_
    refine wk_iload_n C dX11_restOfPower_18 rfl rfl ?_
    refine wk_istore C (lv' := [some (.int l0I), some (.int l1I), some (.int l2I), some (.long x16), none, some (.long x18), none, some (.int l1I), none]) dX11_restOfPower_19 (by decide) rfl ?_
    refine wk_iconst C (v := 0) dX11_restOfPower_21 (by decide) ?_
    refine wk_istore C (lv' := [some (.int l0I), some (.int l1I), some (.int l2I), some (.long x16), none, some (.long x18), none, some (.int l1I), some (.int (0 : Int32))]) dX11_restOfPower_22 (by decide) rfl ?_
    exact wk_forget (lv' := [none, none, some (.int l2I), some (.long x16), none, some (.long x18), none, some (.int l1I), some (.int (0 : Int32))]) (wkLs.le ⟨rfl, rfl, rfl, rfl, rfl, trivial⟩) (ih _ _ _ _ _ _ hW hE  h)
  · rw [if_neg c14] at h
    refine wk_iconst C (v := 0) dX11_restOfPower_5 (by decide) ?_
    exact E _ _ _ _ _ _ (Nat.le_refl 0) (Nat.le_refl 0) dX11_restOfPower_6 ⟨(0 : Int32), rfl, h, hW, hE⟩
def wvJ11_isValidCodePoint_9a6ad : List Cond := .code yJ11_isValidCodePoint_9a6ad cJ11_isValidCodePoint_9a6ad 2 (some .boolean) :: (([] : List Cond) ++ (([]) ++ ([])))
theorem gdJ11_isValidCodePoint_9a6ad : ∀ w ∈ wvJ11_isValidCodePoint_9a6ad, wkGd w := wkGdC rfl (wkGdA (wkGdL (by decide +kernel)) (wkGdA (fun _ h => absurd h List.not_mem_nil) (fun _ h => absurd h List.not_mem_nil)))
def rJ11_isValidCodePoint_9a6ad (F : Nat) (l0I : Int32) (S : wPS) (Φ : (Int32 → wPS → Prop)) : Prop :=
  wkLt (((l0I).toUInt32 >>> (((16 : Int32)).toUInt32 &&& Int32.toUInt32 31)).toInt32) fun x1 => if (17 : Int32) ≤ x1 then (Φ (0 : Int32) S) else (Φ (1 : Int32) S)
set_option maxHeartbeats 4000000 in
set_option maxRecDepth 100000 in
theorem tJ11_isValidCodePoint_9a6ad {l : Launch} {g : wkG} {F : Nat}  {S : wPS} {l0I : Int32} {Φ : (Int32 → wPS → Prop)} (hW : wkWF S)  (h : rJ11_isValidCodePoint_9a6ad F l0I S Φ) : wkMet l g yJ11_isValidCodePoint_9a6ad wvJ11_isValidCodePoint_9a6ad 0 0 0 [.int l0I] S (fun v' S'' => ∃ v : Int32, v' = some (.int v) ∧ Φ v S'' ∧ wkWF S'' ∧ wkExt S S'') := by
  refine wkMet_of (ret := (some .boolean)) (by decide) rfl (Nat.le_of_ble_eq_true rfl) (fun X hg C hR E => ?_)
  subst hg
  have hE : wkExt S S := wkExt.rf
  have hd : 0 ≤ 0 := Nat.le_refl _
  show wkGo l X 2 0 0 0 S [some (.int l0I), none] []
  unfold rJ11_isValidCodePoint_9a6ad at h
  refine wk_iload_n C dJ11_isValidCodePoint_9a6ad_0 rfl rfl ?_
  refine wk_bipush C (v := 16) dJ11_isValidCodePoint_9a6ad_1 (by decide) ?_
  refine wk_iushr C dJ11_isValidCodePoint_9a6ad_3 rfl ?_
  obtain ⟨x1, ex1, h⟩ := wkLt_some h
  refine wk_topi ex1 ?_
  refine wk_istore_n C (lv' := [some (.int l0I), some (.int x1)]) dJ11_isValidCodePoint_9a6ad_4 rfl (by decide) rfl ?_
  refine wk_iload_n C dJ11_isValidCodePoint_9a6ad_5 rfl rfl ?_
  refine wk_bipush C (v := 17) dJ11_isValidCodePoint_9a6ad_6 (by decide) ?_
  refine wk_icmp_ge C (tgt := 15) dJ11_isValidCodePoint_9a6ad_8 (by decide) (fun c2 => ?_) (fun c2 => ?_)
  · rw [if_pos c2] at h
    refine wk_iconst C (v := 0) dJ11_isValidCodePoint_9a6ad_15 (by decide) ?_
    exact E _ _ _ _ _ _ (Nat.le_refl 0) (Nat.le_refl 0) dJ11_isValidCodePoint_9a6ad_16 rfl ⟨(0 : Int32), rfl, h, hW, hE⟩
  · rw [if_neg c2] at h
    refine wk_iconst C (v := 1) dJ11_isValidCodePoint_9a6ad_11 (by decide) ?_
    refine wk_goto C (tgt := 16) dJ11_isValidCodePoint_9a6ad_12 (by decide) ?_
    exact E _ _ _ _ _ _ (Nat.le_refl 0) (Nat.le_refl 0) dJ11_isValidCodePoint_9a6ad_16 rfl ⟨(1 : Int32), rfl, h, hW, hE⟩
def wvJ11_highSurrogate_5068e : List Cond := .code yJ11_highSurrogate_5068e cJ11_highSurrogate_5068e 1 (some .char) :: (([.constant RJ11 110 (55232)] : List Cond) ++ (([]) ++ ([])))
theorem gdJ11_highSurrogate_5068e : ∀ w ∈ wvJ11_highSurrogate_5068e, wkGd w := wkGdC rfl (wkGdA (wkGdL (by decide +kernel)) (wkGdA (fun _ h => absurd h List.not_mem_nil) (fun _ h => absurd h List.not_mem_nil)))
def rJ11_highSurrogate_5068e (F : Nat) (l0I : Int32) (S : wPS) (Φ : (Int32 → wPS → Prop)) : Prop :=
  ((((Int32.toUInt32 (((l0I).toUInt32 >>> (((10 : Int32)).toUInt32 &&& Int32.toUInt32 31)).toInt32 + (55232 : Int32))) % 65536).toInt32 : Int32).toUInt32 % 65536).toInt32 = ((Int32.toUInt32 (((l0I).toUInt32 >>> (((10 : Int32)).toUInt32 &&& Int32.toUInt32 31)).toInt32 + (55232 : Int32))) % 65536).toInt32 ∧ Φ ((Int32.toUInt32 (((l0I).toUInt32 >>> (((10 : Int32)).toUInt32 &&& Int32.toUInt32 31)).toInt32 + (55232 : Int32))) % 65536).toInt32 S
set_option maxHeartbeats 4000000 in
set_option maxRecDepth 100000 in
theorem tJ11_highSurrogate_5068e {l : Launch} {g : wkG} {F : Nat}  {S : wPS} {l0I : Int32} {Φ : (Int32 → wPS → Prop)} (hW : wkWF S)  (h : rJ11_highSurrogate_5068e F l0I S Φ) : wkMet l g yJ11_highSurrogate_5068e wvJ11_highSurrogate_5068e 0 0 0 [.int l0I] S (fun v' S'' => ∃ v : Int32, v' = some (.int v) ∧ Φ v S'' ∧ wkWF S'' ∧ wkExt S S'') := by
  refine wkMet_of (ret := (some .char)) (by decide) rfl (Nat.le_of_ble_eq_true rfl) (fun X hg C hR E => ?_)
  subst hg
  have hE : wkExt S S := wkExt.rf
  have hd : 0 ≤ 0 := Nat.le_refl _
  show wkGo l X 1 0 0 0 S [some (.int l0I)] []
  unfold rJ11_highSurrogate_5068e at h
  refine wk_iload_n C dJ11_highSurrogate_5068e_0 rfl rfl ?_
  refine wk_bipush C (v := 10) dJ11_highSurrogate_5068e_1 (by decide) ?_
  refine wk_iushr C dJ11_highSurrogate_5068e_3 rfl ?_
  refine wk_ldc C (v := 55232) (List.mem_of_getElem? (i := 1) rfl) dJ11_highSurrogate_5068e_4 ?_
  refine wk_iadd C dJ11_highSurrogate_5068e_6 rfl ?_
  refine wk_i2c C dJ11_highSurrogate_5068e_7 rfl ?_
  obtain ⟨b1, h⟩ := h
  exact E _ _ _ _ _ _ (Nat.le_refl 0) (Nat.le_refl 0) dJ11_highSurrogate_5068e_8 (wkNarC b1) ⟨((Int32.toUInt32 (((l0I).toUInt32 >>> (((10 : Int32)).toUInt32 &&& Int32.toUInt32 31)).toInt32 + (55232 : Int32))) % 65536).toInt32, rfl, h, hW, hE⟩
def wvJ11_lowSurrogate_5068e : List Cond := .code yJ11_lowSurrogate_5068e cJ11_lowSurrogate_5068e 1 (some .char) :: (([.constant RJ11 76 (56320)] : List Cond) ++ (([]) ++ ([])))
theorem gdJ11_lowSurrogate_5068e : ∀ w ∈ wvJ11_lowSurrogate_5068e, wkGd w := wkGdC rfl (wkGdA (wkGdL (by decide +kernel)) (wkGdA (fun _ h => absurd h List.not_mem_nil) (fun _ h => absurd h List.not_mem_nil)))
def rJ11_lowSurrogate_5068e (F : Nat) (l0I : Int32) (S : wPS) (Φ : (Int32 → wPS → Prop)) : Prop :=
  ((((Int32.toUInt32 ((l0I &&& (1023 : Int32)) + (56320 : Int32))) % 65536).toInt32 : Int32).toUInt32 % 65536).toInt32 = ((Int32.toUInt32 ((l0I &&& (1023 : Int32)) + (56320 : Int32))) % 65536).toInt32 ∧ Φ ((Int32.toUInt32 ((l0I &&& (1023 : Int32)) + (56320 : Int32))) % 65536).toInt32 S
set_option maxHeartbeats 4000000 in
set_option maxRecDepth 100000 in
theorem tJ11_lowSurrogate_5068e {l : Launch} {g : wkG} {F : Nat}  {S : wPS} {l0I : Int32} {Φ : (Int32 → wPS → Prop)} (hW : wkWF S)  (h : rJ11_lowSurrogate_5068e F l0I S Φ) : wkMet l g yJ11_lowSurrogate_5068e wvJ11_lowSurrogate_5068e 0 0 0 [.int l0I] S (fun v' S'' => ∃ v : Int32, v' = some (.int v) ∧ Φ v S'' ∧ wkWF S'' ∧ wkExt S S'') := by
  refine wkMet_of (ret := (some .char)) (by decide) rfl (Nat.le_of_ble_eq_true rfl) (fun X hg C hR E => ?_)
  subst hg
  have hE : wkExt S S := wkExt.rf
  have hd : 0 ≤ 0 := Nat.le_refl _
  show wkGo l X 1 0 0 0 S [some (.int l0I)] []
  unfold rJ11_lowSurrogate_5068e at h
  refine wk_iload_n C dJ11_lowSurrogate_5068e_0 rfl rfl ?_
  refine wk_sipush C (v := 1023) dJ11_lowSurrogate_5068e_1 (by decide) ?_
  refine wk_iand C dJ11_lowSurrogate_5068e_4 rfl ?_
  refine wk_ldc C (v := 56320) (List.mem_of_getElem? (i := 1) rfl) dJ11_lowSurrogate_5068e_5 ?_
  refine wk_iadd C dJ11_lowSurrogate_5068e_7 rfl ?_
  refine wk_i2c C dJ11_lowSurrogate_5068e_8 rfl ?_
  obtain ⟨b1, h⟩ := h
  exact E _ _ _ _ _ _ (Nat.le_refl 0) (Nat.le_refl 0) dJ11_lowSurrogate_5068e_9 (wkNarC b1) ⟨((Int32.toUInt32 ((l0I &&& (1023 : Int32)) + (56320 : Int32))) % 65536).toInt32, rfl, h, hW, hE⟩
def wvJ6_bitCount_0f7a4 : List Cond := .code yJ6_bitCount_0f7a4 cJ6_bitCount_0f7a4 1 (some .int) :: (([.constant RJ6 265 (1431655765), .constant RJ6 266 (858993459), .constant RJ6 267 (252645135)] : List Cond) ++ (([]) ++ ([])))
theorem gdJ6_bitCount_0f7a4 : ∀ w ∈ wvJ6_bitCount_0f7a4, wkGd w := wkGdC rfl (wkGdA (wkGdL (by decide +kernel)) (wkGdA (fun _ h => absurd h List.not_mem_nil) (fun _ h => absurd h List.not_mem_nil)))
def rJ6_bitCount_0f7a4 (F : Nat) (l0I : Int32) (S : wPS) (Φ : (Int32 → wPS → Prop)) : Prop :=
  wkLt ((l0I - (((l0I).toUInt32 >>> (((1 : Int32)).toUInt32 &&& Int32.toUInt32 31)).toInt32 &&& (1431655765 : Int32)))) fun x1 => wkLt (((x1 &&& (858993459 : Int32)) + (((x1).toUInt32 >>> (((2 : Int32)).toUInt32 &&& Int32.toUInt32 31)).toInt32 &&& (858993459 : Int32)))) fun x2 => wkLt (((x2 + ((x2).toUInt32 >>> (((4 : Int32)).toUInt32 &&& Int32.toUInt32 31)).toInt32) &&& (252645135 : Int32))) fun x3 => wkLt ((x3 + ((x3).toUInt32 >>> (((8 : Int32)).toUInt32 &&& Int32.toUInt32 31)).toInt32)) fun x4 => wkLt ((x4 + ((x4).toUInt32 >>> (((16 : Int32)).toUInt32 &&& Int32.toUInt32 31)).toInt32)) fun x5 => Φ (x5 &&& (63 : Int32)) S
set_option maxHeartbeats 4000000 in
set_option maxRecDepth 100000 in
theorem tJ6_bitCount_0f7a4 {l : Launch} {g : wkG} {F : Nat}  {S : wPS} {l0I : Int32} {Φ : (Int32 → wPS → Prop)} (hW : wkWF S)  (h : rJ6_bitCount_0f7a4 F l0I S Φ) : wkMet l g yJ6_bitCount_0f7a4 wvJ6_bitCount_0f7a4 0 0 0 [.int l0I] S (fun v' S'' => ∃ v : Int32, v' = some (.int v) ∧ Φ v S'' ∧ wkWF S'' ∧ wkExt S S'') := by
  refine wkMet_of (ret := (some .int)) (by decide) rfl (Nat.le_of_ble_eq_true rfl) (fun X hg C hR E => ?_)
  subst hg
  have hE : wkExt S S := wkExt.rf
  have hd : 0 ≤ 0 := Nat.le_refl _
  show wkGo l X 1 0 0 0 S [some (.int l0I)] []
  unfold rJ6_bitCount_0f7a4 at h
  refine wk_iload_n C dJ6_bitCount_0f7a4_0 rfl rfl ?_
  refine wk_iload_n C dJ6_bitCount_0f7a4_1 rfl rfl ?_
  refine wk_iconst C (v := 1) dJ6_bitCount_0f7a4_2 (by decide) ?_
  refine wk_iushr C dJ6_bitCount_0f7a4_3 rfl ?_
  refine wk_ldcw C (v := 1431655765) (List.mem_of_getElem? (i := 1) rfl) dJ6_bitCount_0f7a4_4 ?_
  refine wk_iand C dJ6_bitCount_0f7a4_7 rfl ?_
  refine wk_isub C dJ6_bitCount_0f7a4_8 rfl ?_
  obtain ⟨x1, ex1, h⟩ := wkLt_some h
  refine wk_topi ex1 ?_
  refine wk_istore_n C (lv' := [some (.int x1)]) dJ6_bitCount_0f7a4_9 rfl (by decide) rfl ?_
  refine wk_iload_n C dJ6_bitCount_0f7a4_10 rfl rfl ?_
  refine wk_ldcw C (v := 858993459) (List.mem_of_getElem? (i := 2) rfl) dJ6_bitCount_0f7a4_11 ?_
  refine wk_iand C dJ6_bitCount_0f7a4_14 rfl ?_
  refine wk_iload_n C dJ6_bitCount_0f7a4_15 rfl rfl ?_
  refine wk_iconst C (v := 2) dJ6_bitCount_0f7a4_16 (by decide) ?_
  refine wk_iushr C dJ6_bitCount_0f7a4_17 rfl ?_
  refine wk_ldcw C (v := 858993459) (List.mem_of_getElem? (i := 2) rfl) dJ6_bitCount_0f7a4_18 ?_
  refine wk_iand C dJ6_bitCount_0f7a4_21 rfl ?_
  refine wk_iadd C dJ6_bitCount_0f7a4_22 rfl ?_
  obtain ⟨x2, ex2, h⟩ := wkLt_some h
  refine wk_topi ex2 ?_
  refine wk_istore_n C (lv' := [some (.int x2)]) dJ6_bitCount_0f7a4_23 rfl (by decide) rfl ?_
  refine wk_iload_n C dJ6_bitCount_0f7a4_24 rfl rfl ?_
  refine wk_iload_n C dJ6_bitCount_0f7a4_25 rfl rfl ?_
  refine wk_iconst C (v := 4) dJ6_bitCount_0f7a4_26 (by decide) ?_
  refine wk_iushr C dJ6_bitCount_0f7a4_27 rfl ?_
  refine wk_iadd C dJ6_bitCount_0f7a4_28 rfl ?_
  refine wk_ldcw C (v := 252645135) (List.mem_of_getElem? (i := 3) rfl) dJ6_bitCount_0f7a4_29 ?_
  refine wk_iand C dJ6_bitCount_0f7a4_32 rfl ?_
  obtain ⟨x3, ex3, h⟩ := wkLt_some h
  refine wk_topi ex3 ?_
  refine wk_istore_n C (lv' := [some (.int x3)]) dJ6_bitCount_0f7a4_33 rfl (by decide) rfl ?_
  refine wk_iload_n C dJ6_bitCount_0f7a4_34 rfl rfl ?_
  refine wk_iload_n C dJ6_bitCount_0f7a4_35 rfl rfl ?_
  refine wk_bipush C (v := 8) dJ6_bitCount_0f7a4_36 (by decide) ?_
  refine wk_iushr C dJ6_bitCount_0f7a4_38 rfl ?_
  refine wk_iadd C dJ6_bitCount_0f7a4_39 rfl ?_
  obtain ⟨x4, ex4, h⟩ := wkLt_some h
  refine wk_topi ex4 ?_
  refine wk_istore_n C (lv' := [some (.int x4)]) dJ6_bitCount_0f7a4_40 rfl (by decide) rfl ?_
  refine wk_iload_n C dJ6_bitCount_0f7a4_41 rfl rfl ?_
  refine wk_iload_n C dJ6_bitCount_0f7a4_42 rfl rfl ?_
  refine wk_bipush C (v := 16) dJ6_bitCount_0f7a4_43 (by decide) ?_
  refine wk_iushr C dJ6_bitCount_0f7a4_45 rfl ?_
  refine wk_iadd C dJ6_bitCount_0f7a4_46 rfl ?_
  obtain ⟨x5, ex5, h⟩ := wkLt_some h
  refine wk_topi ex5 ?_
  refine wk_istore_n C (lv' := [some (.int x5)]) dJ6_bitCount_0f7a4_47 rfl (by decide) rfl ?_
  refine wk_iload_n C dJ6_bitCount_0f7a4_48 rfl rfl ?_
  refine wk_bipush C (v := 63) dJ6_bitCount_0f7a4_49 (by decide) ?_
  refine wk_iand C dJ6_bitCount_0f7a4_51 rfl ?_
  exact E _ _ _ _ _ _ (Nat.le_refl 0) (Nat.le_refl 0) dJ6_bitCount_0f7a4_52 ⟨(x5 &&& (63 : Int32)), rfl, h, hW, hE⟩
def wvJ9_floorDiv_7cf53 : List Cond := .code yJ9_floorDiv_7cf53 cJ9_floorDiv_7cf53 3 (some .int) :: (([] : List Cond) ++ (([]) ++ ([])))
theorem gdJ9_floorDiv_7cf53 : ∀ w ∈ wvJ9_floorDiv_7cf53, wkGd w := wkGdC rfl (wkGdA (wkGdL (by decide +kernel)) (wkGdA (fun _ h => absurd h List.not_mem_nil) (fun _ h => absurd h List.not_mem_nil)))
def rJ9_floorDiv_7cf53 (F : Nat) (l0I : Int32) (l1I : Int32) (S : wPS) (Φ : (Int32 → wPS → Prop)) : Prop :=
  ¬ l1I = 0 ∧ wkLt ((l0I / l1I)) fun x2 => if 0 ≤ (l0I ^^^ l1I) then (Φ x2 S) else (if (x2 * l1I) = l0I then (Φ x2 S) else (Φ (x2 - (1 : Int32)) S))
set_option maxHeartbeats 4000000 in
set_option maxRecDepth 100000 in
theorem tJ9_floorDiv_7cf53 {l : Launch} {g : wkG} {F : Nat}  {S : wPS} {l0I : Int32} {l1I : Int32} {Φ : (Int32 → wPS → Prop)} (hW : wkWF S)  (h : rJ9_floorDiv_7cf53 F l0I l1I S Φ) : wkMet l g yJ9_floorDiv_7cf53 wvJ9_floorDiv_7cf53 0 0 0 [.int l0I, .int l1I] S (fun v' S'' => ∃ v : Int32, v' = some (.int v) ∧ Φ v S'' ∧ wkWF S'' ∧ wkExt S S'') := by
  refine wkMet_ofF (ret := (some .int)) (by decide +kernel) rfl (Nat.le_of_ble_eq_true rfl) (fun X hg C hR E => ?_)
  subst hg
  have hE : wkExt S S := wkExt.rf
  have hd : 0 ≤ 0 := Nat.le_refl _
  show wkGo l X 3 0 0 0 S [some (.int l0I), some (.int l1I), none] []
  unfold rJ9_floorDiv_7cf53 at h
  refine wk_iload_n C dJ9_floorDiv_7cf53_0 rfl rfl ?_
  refine wk_iload_n C dJ9_floorDiv_7cf53_1 rfl rfl ?_
  obtain ⟨z1, h⟩ := h
  refine wk_idiv C dJ9_floorDiv_7cf53_2 z1 rfl ?_
  obtain ⟨x2, ex2, h⟩ := wkLt_some h
  refine wk_topi ex2 ?_
  refine wk_istore_n C (lv' := [some (.int l0I), some (.int l1I), some (.int x2)]) dJ9_floorDiv_7cf53_3 rfl (by decide) rfl ?_
  refine wk_iload_n C dJ9_floorDiv_7cf53_4 rfl rfl ?_
  refine wk_iload_n C dJ9_floorDiv_7cf53_5 rfl rfl ?_
  refine wk_ixor C dJ9_floorDiv_7cf53_6 rfl ?_
  refine wk_if_ge C (tgt := 21) dJ9_floorDiv_7cf53_7 (by decide) (fun c3 => ?_) (fun c3 => ?_)
  · rw [if_pos c3] at h
    refine wk_iload_n C dJ9_floorDiv_7cf53_21 rfl rfl ?_
    exact E _ _ _ _ _ _ (Nat.le_refl 0) (Nat.le_refl 0) dJ9_floorDiv_7cf53_22 ⟨x2, rfl, h, hW, hE⟩
  · rw [if_neg c3] at h
    refine wk_iload_n C dJ9_floorDiv_7cf53_10 rfl rfl ?_
    refine wk_iload_n C dJ9_floorDiv_7cf53_11 rfl rfl ?_
    refine wk_imul C dJ9_floorDiv_7cf53_12 rfl ?_
    refine wk_iload_n C dJ9_floorDiv_7cf53_13 rfl rfl ?_
    refine wk_icmp_eq C (tgt := 21) dJ9_floorDiv_7cf53_14 (by decide) (fun c4 => ?_) (fun c4 => ?_)
    · rw [if_pos c4] at h
      refine wk_iload_n C dJ9_floorDiv_7cf53_21 rfl rfl ?_
      exact E _ _ _ _ _ _ (Nat.le_refl 0) (Nat.le_refl 0) dJ9_floorDiv_7cf53_22 ⟨x2, rfl, h, hW, hE⟩
    · rw [if_neg c4] at h
      refine wk_iload_n C dJ9_floorDiv_7cf53_17 rfl rfl ?_
      refine wk_iconst C (v := 1) dJ9_floorDiv_7cf53_18 (by decide) ?_
      refine wk_isub C dJ9_floorDiv_7cf53_19 rfl ?_
      exact E _ _ _ _ _ _ (Nat.le_refl 0) (Nat.le_refl 0) dJ9_floorDiv_7cf53_20 ⟨(x2 - (1 : Int32)), rfl, h, hW, hE⟩
def wvJ9_floorDiv_f86c9 : List Cond := .code yJ9_floorDiv_f86c9 cJ9_floorDiv_f86c9 6 (some .long) :: (([] : List Cond) ++ (([]) ++ ([])))
theorem gdJ9_floorDiv_f86c9 : ∀ w ∈ wvJ9_floorDiv_f86c9, wkGd w := wkGdC rfl (wkGdA (wkGdL (by decide +kernel)) (wkGdA (fun _ h => absurd h List.not_mem_nil) (fun _ h => absurd h List.not_mem_nil)))
def rJ9_floorDiv_f86c9 (F : Nat) (l0J : Int64) (l2J : Int64) (S : wPS) (Φ : (Int64 → wPS → Prop)) : Prop :=
  ¬ l2J = 0 ∧ wkLt ((l0J / l2J)) fun x2 => if 0 ≤ (lg_cmp (l0J ^^^ l2J) (0 : Int64)) then (Φ x2 S) else (if (lg_cmp (x2 * l2J) l0J) = 0 then (Φ x2 S) else (Φ (x2 - (1 : Int64)) S))
set_option maxHeartbeats 4000000 in
set_option maxRecDepth 100000 in
theorem tJ9_floorDiv_f86c9 {l : Launch} {g : wkG} {F : Nat}  {S : wPS} {l0J : Int64} {l2J : Int64} {Φ : (Int64 → wPS → Prop)} (hW : wkWF S)  (h : rJ9_floorDiv_f86c9 F l0J l2J S Φ) : wkMet l g yJ9_floorDiv_f86c9 wvJ9_floorDiv_f86c9 0 0 0 [.long l0J, .long l2J] S (fun v' S'' => ∃ v : Int64, v' = some (.long v) ∧ Φ v S'' ∧ wkWF S'' ∧ wkExt S S'') := by
  refine wkMet_ofF (ret := (some .long)) (by decide +kernel) rfl (Nat.le_of_ble_eq_true rfl) (fun X hg C hR E => ?_)
  subst hg
  have hE : wkExt S S := wkExt.rf
  have hd : 0 ≤ 0 := Nat.le_refl _
  show wkGo l X 6 0 0 0 S [some (.long l0J), none, some (.long l2J), none, none, none] []
  unfold rJ9_floorDiv_f86c9 at h
  refine wk_lload_n C dJ9_floorDiv_f86c9_0 rfl rfl ?_
  refine wk_lload_n C dJ9_floorDiv_f86c9_1 rfl rfl ?_
  obtain ⟨z1, h⟩ := h
  refine wk_ldiv C dJ9_floorDiv_f86c9_2 z1 rfl ?_
  obtain ⟨x2, ex2, h⟩ := wkLt_some h
  refine wk_topl ex2 ?_
  refine wk_lstore C (lv' := [some (.long l0J), none, some (.long l2J), none, some (.long x2), none]) dJ9_floorDiv_f86c9_3 (by decide) rfl ?_
  refine wk_lload_n C dJ9_floorDiv_f86c9_5 rfl rfl ?_
  refine wk_lload_n C dJ9_floorDiv_f86c9_6 rfl rfl ?_
  refine wk_lxor C dJ9_floorDiv_f86c9_7 rfl ?_
  refine wk_lconst C (v := 0) dJ9_floorDiv_f86c9_8 (by decide) ?_
  refine wk_lcmp C dJ9_floorDiv_f86c9_9 rfl ?_
  refine wk_if_ge C (tgt := 27) dJ9_floorDiv_f86c9_10 (by decide) (fun c3 => ?_) (fun c3 => ?_)
  · rw [if_pos c3] at h
    refine wk_lload C dJ9_floorDiv_f86c9_27 rfl ?_
    exact E _ _ _ _ _ _ (Nat.le_refl 0) (Nat.le_refl 0) dJ9_floorDiv_f86c9_29 ⟨x2, rfl, h, hW, hE⟩
  · rw [if_neg c3] at h
    refine wk_lload C dJ9_floorDiv_f86c9_13 rfl ?_
    refine wk_lload_n C dJ9_floorDiv_f86c9_15 rfl rfl ?_
    refine wk_lmul C dJ9_floorDiv_f86c9_16 rfl ?_
    refine wk_lload_n C dJ9_floorDiv_f86c9_17 rfl rfl ?_
    refine wk_lcmp C dJ9_floorDiv_f86c9_18 rfl ?_
    refine wk_if_eq C (tgt := 27) dJ9_floorDiv_f86c9_19 (by decide) (fun c4 => ?_) (fun c4 => ?_)
    · rw [if_pos c4] at h
      refine wk_lload C dJ9_floorDiv_f86c9_27 rfl ?_
      exact E _ _ _ _ _ _ (Nat.le_refl 0) (Nat.le_refl 0) dJ9_floorDiv_f86c9_29 ⟨x2, rfl, h, hW, hE⟩
    · rw [if_neg c4] at h
      refine wk_lload C dJ9_floorDiv_f86c9_22 rfl ?_
      refine wk_lconst C (v := 1) dJ9_floorDiv_f86c9_24 (by decide) ?_
      refine wk_lsub C dJ9_floorDiv_f86c9_25 rfl ?_
      exact E _ _ _ _ _ _ (Nat.le_refl 0) (Nat.le_refl 0) dJ9_floorDiv_f86c9_26 ⟨(x2 - (1 : Int64)), rfl, h, hW, hE⟩
def wvJ9_floorMod_7cf53 : List Cond := .code yJ9_floorMod_7cf53 cJ9_floorMod_7cf53 3 (some .int) :: (([] : List Cond) ++ (([]) ++ ([])))
theorem gdJ9_floorMod_7cf53 : ∀ w ∈ wvJ9_floorMod_7cf53, wkGd w := wkGdC rfl (wkGdA (wkGdL (by decide +kernel)) (wkGdA (fun _ h => absurd h List.not_mem_nil) (fun _ h => absurd h List.not_mem_nil)))
def rJ9_floorMod_7cf53 (F : Nat) (l0I : Int32) (l1I : Int32) (S : wPS) (Φ : (Int32 → wPS → Prop)) : Prop :=
  ¬ l1I = 0 ∧ wkLt ((l0I - l0I / l1I * l1I)) fun x2 => if 0 ≤ (l0I ^^^ l1I) then (Φ x2 S) else (if x2 = 0 then (Φ x2 S) else (Φ (x2 + l1I) S))
set_option maxHeartbeats 4000000 in
set_option maxRecDepth 100000 in
theorem tJ9_floorMod_7cf53 {l : Launch} {g : wkG} {F : Nat}  {S : wPS} {l0I : Int32} {l1I : Int32} {Φ : (Int32 → wPS → Prop)} (hW : wkWF S)  (h : rJ9_floorMod_7cf53 F l0I l1I S Φ) : wkMet l g yJ9_floorMod_7cf53 wvJ9_floorMod_7cf53 0 0 0 [.int l0I, .int l1I] S (fun v' S'' => ∃ v : Int32, v' = some (.int v) ∧ Φ v S'' ∧ wkWF S'' ∧ wkExt S S'') := by
  refine wkMet_ofF (ret := (some .int)) (by decide +kernel) rfl (Nat.le_of_ble_eq_true rfl) (fun X hg C hR E => ?_)
  subst hg
  have hE : wkExt S S := wkExt.rf
  have hd : 0 ≤ 0 := Nat.le_refl _
  show wkGo l X 3 0 0 0 S [some (.int l0I), some (.int l1I), none] []
  unfold rJ9_floorMod_7cf53 at h
  refine wk_iload_n C dJ9_floorMod_7cf53_0 rfl rfl ?_
  refine wk_iload_n C dJ9_floorMod_7cf53_1 rfl rfl ?_
  obtain ⟨z1, h⟩ := h
  refine wk_irem C dJ9_floorMod_7cf53_2 z1 rfl ?_
  obtain ⟨x2, ex2, h⟩ := wkLt_some h
  refine wk_topi ex2 ?_
  refine wk_istore_n C (lv' := [some (.int l0I), some (.int l1I), some (.int x2)]) dJ9_floorMod_7cf53_3 rfl (by decide) rfl ?_
  refine wk_iload_n C dJ9_floorMod_7cf53_4 rfl rfl ?_
  refine wk_iload_n C dJ9_floorMod_7cf53_5 rfl rfl ?_
  refine wk_ixor C dJ9_floorMod_7cf53_6 rfl ?_
  refine wk_if_ge C (tgt := 18) dJ9_floorMod_7cf53_7 (by decide) (fun c3 => ?_) (fun c3 => ?_)
  · rw [if_pos c3] at h
    refine wk_iload_n C dJ9_floorMod_7cf53_18 rfl rfl ?_
    exact E _ _ _ _ _ _ (Nat.le_refl 0) (Nat.le_refl 0) dJ9_floorMod_7cf53_19 ⟨x2, rfl, h, hW, hE⟩
  · rw [if_neg c3] at h
    refine wk_iload_n C dJ9_floorMod_7cf53_10 rfl rfl ?_
    refine wk_if_eq C (tgt := 18) dJ9_floorMod_7cf53_11 (by decide) (fun c4 => ?_) (fun c4 => ?_)
    · rw [if_pos c4] at h
      refine wk_iload_n C dJ9_floorMod_7cf53_18 rfl rfl ?_
      exact E _ _ _ _ _ _ (Nat.le_refl 0) (Nat.le_refl 0) dJ9_floorMod_7cf53_19 ⟨x2, rfl, h, hW, hE⟩
    · rw [if_neg c4] at h
      refine wk_iload_n C dJ9_floorMod_7cf53_14 rfl rfl ?_
      refine wk_iload_n C dJ9_floorMod_7cf53_15 rfl rfl ?_
      refine wk_iadd C dJ9_floorMod_7cf53_16 rfl ?_
      exact E _ _ _ _ _ _ (Nat.le_refl 0) (Nat.le_refl 0) dJ9_floorMod_7cf53_17 ⟨(x2 + l1I), rfl, h, hW, hE⟩
