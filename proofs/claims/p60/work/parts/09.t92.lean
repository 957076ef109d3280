def wvX11_checksum : List Cond := .code yX11_checksum cX11_checksum 5 (some .long) :: (([.fieldLink RX11 86 "Witnessworks" "entryCount" "I", .methodLink RX11 144 yX11_refreshed, .instanceMethod yX11_refreshed, .selects RX11 yX11_refreshed yX11_refreshed, .initialized RX11, .constantLong RX11 448 (31), .fieldLink RX11 152 "Witnessworks$Entry" "boundNow" "I", .fieldLink RX11 225 "Witnessworks$Entry" "told" "I", .fieldLink RX11 221 "Witnessworks$Entry" "reply" "C", .fieldLink RX11 227 "Witnessworks$Entry" "row" "LWitnessworks$Row;", .methodLink RX11 235 yX9_total, .instanceMethod yX9_total, .selects RX9 yX9_total yX9_total, .initialized RX9, .constantLong RX11 446 (7)] : List Cond) ++ ((wsX110 ++ (wsX30)) ++ (wvX11_refreshed ++ (wvX9_total))))
theorem huX11_checksum_11 : ∀ w ∈ u_ws RX11 TX11 19, w ∈ wvX11_checksum := fun w h => List.mem_cons_of_mem _ (List.mem_append_right _ (List.mem_append_left _ (List.mem_append_left _ h)))
theorem huX11_checksum_3 : ∀ w ∈ u_ws RX3 TX3 17, w ∈ wvX11_checksum := fun w h => List.mem_cons_of_mem _ (List.mem_append_right _ (List.mem_append_left _ (List.mem_append_right _ h)))
theorem hbX11_checksum_X11_refreshed : ∀ w ∈ wvX11_refreshed, w ∈ wvX11_checksum := fun w h => List.mem_cons_of_mem _ (List.mem_append_right _ (List.mem_append_right _ (List.mem_append_left _ h)))
theorem hbX11_checksum_X9_total : ∀ w ∈ wvX9_total, w ∈ wvX11_checksum := fun w h => List.mem_cons_of_mem _ (List.mem_append_right _ (List.mem_append_right _ (List.mem_append_right _ h)))
theorem gdX11_checksum : ∀ w ∈ wvX11_checksum, wkGd w := wkGdC rfl (wkGdA (wkGdL (by decide +kernel)) (wkGdA (wkGdA gdX11 gdX3) (wkGdA gdX11_refreshed gdX9_total)))
def rX11_checksum_b0 (F : Nat) (k n : Nat) (rec : Nat → Nat → Nat → Nat → Int64 → Int32 → wPS → (Int64 → wPS → Prop) → (String → wPS → Prop) → Prop) (c s : Nat) (l0A : Nat) (l1J : Int64) (l3I : Int32) (S : wPS) (Φ : (Int64 → wPS → Prop)) (Ψ : String → wPS → Prop) : Prop :=
  if (gWitnessworks_entryCount S l0A) ≤ l3I then (Φ l1J S) else (∃ k5 n6 : Nat, c + k5 ≤ k ∧ s + n6 ≤ n ∧ rX11_refreshed F k5 n6 l0A l3I S (fun v2 S3 => wkLt ((((31 : Int64) * l1J) + (Int32.toInt64 (gEntry_boundNow S3 v2)))) fun x7 => wkLt ((((31 : Int64) * x7) + (Int32.toInt64 (gEntry_told S3 v2)))) fun x8 => wkLt ((((31 : Int64) * x8) + (Int32.toInt64 (gEntry_reply S3 v2)))) fun x9 => rX9_total F (wkAd (gEntry_row S3 v2)) S3 fun v10 S11 => wkLt ((((31 : Int64) * x9) + v10)) fun x15 => wkLt (l3I + (1 : Int32)) fun x16 => rec 0 (c + k5) (s + n6) l0A x15 x16 S11 Φ Ψ) Ψ)
def rX11_checksum_go (F : Nat) (k n : Nat) : Nat → Nat → Nat → Nat → Nat → Int64 → Int32 → wPS → (Int64 → wPS → Prop) → (String → wPS → Prop) → Prop
  | 0, _, _, _, _, _, _, _, _, _ => False
  | k' + 1, lab, c, s, l0A, l1J, l3I, S, Φ, Ψ => if lab = 0 then rX11_checksum_b0 F k n (rX11_checksum_go F k n k') c s l0A l1J l3I S Φ Ψ else False
def rX11_checksum_s (F : Nat) (k n : Nat) (rec : Nat → Nat → Nat → Nat → Int64 → Int32 → wPS → (Int64 → wPS → Prop) → (String → wPS → Prop) → Prop) (l0A : Nat) (S : wPS) (Φ : (Int64 → wPS → Prop)) (Ψ : String → wPS → Prop) : Prop :=
  rec 0 0 0 l0A (7 : Int64) (0 : Int32) S Φ Ψ
def rX11_checksum (F : Nat) (k n : Nat) (l0A : Nat) (S : wPS) (Φ : (Int64 → wPS → Prop)) (Ψ : String → wPS → Prop) : Prop := rX11_checksum_s F k n (rX11_checksum_go F k n F) l0A S Φ Ψ
set_option maxHeartbeats 4000000 in
set_option maxRecDepth 100000 in
theorem tX11_checksum_go {k n : Nat} {l : Launch} {X : wkX} {d F : Nat} {S0 : wPS} {Φ : (Int64 → wPS → Prop)} {Ψ : String → wPS → Prop} (hst : wkSta (wkXg X)) (C : wkC X cX11_checksum RX11 5 wvX11_checksum) (hR : wkRm X d k n) (hd : 56 ≤ d) (hex : wkExA (wkXg X)) (hlt : l.stackTraces = false) (EX : wkEndX l X cX11_checksum 5 k n (fun E S'' => Ψ E S'' ∧ wkWF S'' ∧ wkExt S0 S'')) (ET : wkEndT l X cX11_checksum 5 k n (fun E S'' => Ψ E S'' ∧ wkWF S'' ∧ wkExt S0 S'')) (E : wkEnd l X cX11_checksum 5 (some .long) k n (fun v' S'' => ∃ v : Int64, v' = some (.long v) ∧ Φ v S'' ∧ wkWF S'' ∧ wkExt S0 S'')) : ∀ k' : Nat, (∀ (c s : Nat), c ≤ k → s ≤ n → ∀ (l0A : Nat) (l1J : Int64) (l3I : Int32) (S : wPS), wkWF S → wkExt S0 S → wkIs S l0A 11 → rX11_checksum_go F k n k' 0 c s l0A l1J l3I S Φ Ψ → wkGo l X 5 c s 6 S [some (.ref l0A), some (.long l1J), none, some (.int l3I), none] []) := by
  intro k'
  induction k' with
  | zero => exact fun c s hc hs l0A l1J l3I S hW hE hl0A h => h.elim
  | succ k' ih =>
    · intro c s hc hs l0A l1J l3I S hW hE hl0A h
      have h : rX11_checksum_b0 F k n (rX11_checksum_go F k n k') c s l0A l1J l3I S Φ Ψ := by
        rw [rX11_checksum_go, if_pos (rfl : (0 : Nat) = 0)] at h
        exact h
      unfold rX11_checksum_b0 at h
      refine wk_iload_n C dX11_checksum_6 rfl rfl ?_
      refine wk_aload_n C dX11_checksum_7 rfl rfl ?_
      refine wk_get C (v := .int (gWitnessworks_entryCount S l0A)) huX11_checksum_11 hl0A.1 (fun cy => wAt_11 cy _ hl0A.2) rfl 2 (by decide) (List.mem_of_getElem? (i := 1) rfl) rfl rfl dX11_checksum_8 ?_
      refine wk_icmp_ge C (tgt := 81) dX11_checksum_11 (by decide) (fun c1 => ?_) (fun c1 => ?_)
      · rw [if_pos c1] at h
        refine wk_lload_n C dX11_checksum_81 rfl rfl ?_
        exact E _ _ _ _ _ _ hc hs dX11_checksum_82 ⟨l1J, rfl, h, hW, hE⟩
      · rw [if_neg c1] at h
        refine wk_aload_n C dX11_checksum_14 rfl rfl ?_
        refine wk_iload_n C dX11_checksum_15 rfl rfl ?_
        obtain ⟨k5, n6, hk5, hn6, h⟩ := h
        refine wk_callVX C hR EX (As := [.int l3I]) (cnt := 1) (tX11_refreshed (l := l) hst hex hlt hW hl0A h) rfl (wkGoodV (List.mem_of_getElem? (i := 2) rfl) (List.mem_of_getElem? (i := 3) rfl) (List.mem_of_getElem? (i := 4) rfl) (List.mem_of_getElem? (i := 5) rfl) hbX11_checksum_X11_refreshed gdX11_refreshed) (Nat.le_trans (by decide : 55 + 1 ≤ 56) hd) (by decide) hl0A.1 (fun cy => wAt_11 cy _ hl0A.2) rfl ⟨by decide, by decide, by decide +kernel⟩ rfl rfl (Nat.le_of_ble_eq_true rfl) hk5 hn6 dX11_checksum_16 (fun E S' q => ⟨q.1, q.2.1, wkExt.tr hE q.2.2⟩) (fun v' S3 hp => ?_)
        obtain ⟨v2, rfl, h, hWS3, hXS3, hIS3⟩ := hp
        refine wk_astore C (lv' := [some (.ref l0A), some (.long l1J), none, some (.int l3I), some (.ref v2)]) dX11_checksum_19 (by decide) rfl ?_
        refine wk_ldc2 C (v := 31) (List.mem_of_getElem? (i := 6) rfl) dX11_checksum_21 ?_
        refine wk_lload_n C dX11_checksum_24 rfl rfl ?_
        refine wk_lmul C dX11_checksum_25 rfl ?_
        refine wk_aload C dX11_checksum_26 rfl ?_
        refine wk_get C (v := .int (gEntry_boundNow S3 v2)) huX11_checksum_3 hIS3.1 (fun cy => wAt_3 cy _ hIS3.2) rfl 8 (by decide) (List.mem_of_getElem? (i := 7) rfl) rfl rfl dX11_checksum_28 ?_
        refine wk_i2l C dX11_checksum_31 rfl ?_
        refine wk_ladd C dX11_checksum_32 rfl ?_
        obtain ⟨x7, ex7, h⟩ := wkLt_some h
        refine wk_topl ex7 ?_
        refine wk_lstore_n C (lv' := [some (.ref l0A), some (.long x7), none, some (.int l3I), some (.ref v2)]) dX11_checksum_33 rfl (by decide) rfl ?_
        refine wk_ldc2 C (v := 31) (List.mem_of_getElem? (i := 6) rfl) dX11_checksum_34 ?_
        refine wk_lload_n C dX11_checksum_37 rfl rfl ?_
        refine wk_lmul C dX11_checksum_38 rfl ?_
        refine wk_aload C dX11_checksum_39 rfl ?_
        refine wk_get C (v := .int (gEntry_told S3 v2)) huX11_checksum_3 hIS3.1 (fun cy => wAt_3 cy _ hIS3.2) rfl 12 (by decide) (List.mem_of_getElem? (i := 8) rfl) rfl rfl dX11_checksum_41 ?_
        refine wk_i2l C dX11_checksum_44 rfl ?_
        refine wk_ladd C dX11_checksum_45 rfl ?_
        obtain ⟨x8, ex8, h⟩ := wkLt_some h
        refine wk_topl ex8 ?_
        refine wk_lstore_n C (lv' := [some (.ref l0A), some (.long x8), none, some (.int l3I), some (.ref v2)]) dX11_checksum_46 rfl (by decide) rfl ?_
        refine wk_ldc2 C (v := 31) (List.mem_of_getElem? (i := 6) rfl) dX11_checksum_47 ?_
        refine wk_lload_n C dX11_checksum_50 rfl rfl ?_
        refine wk_lmul C dX11_checksum_51 rfl ?_
        refine wk_aload C dX11_checksum_52 rfl ?_
        refine wk_get C (v := .int (gEntry_reply S3 v2)) huX11_checksum_3 hIS3.1 (fun cy => wAt_3 cy _ hIS3.2) rfl 11 (by decide) (List.mem_of_getElem? (i := 9) rfl) rfl rfl dX11_checksum_54 ?_
        refine wk_i2l C dX11_checksum_57 rfl ?_
        refine wk_ladd C dX11_checksum_58 rfl ?_
        obtain ⟨x9, ex9, h⟩ := wkLt_some h
        refine wk_topl ex9 ?_
        refine wk_lstore_n C (lv' := [some (.ref l0A), some (.long x9), none, some (.int l3I), some (.ref v2)]) dX11_checksum_59 rfl (by decide) rfl ?_
        refine wk_ldc2 C (v := 31) (List.mem_of_getElem? (i := 6) rfl) dX11_checksum_60 ?_
        refine wk_lload_n C dX11_checksum_63 rfl rfl ?_
        refine wk_lmul C dX11_checksum_64 rfl ?_
        refine wk_aload C dX11_checksum_65 rfl ?_
        refine wk_get C huX11_checksum_3 hIS3.1 (fun cy => wAt_3 cy _ hIS3.2) rfl 13 (by decide) (List.mem_of_getElem? (i := 10) rfl) rfl (congrArg some (congrArg va_rf (wf_Entry_row hWS3 hIS3).1)) dX11_checksum_67 ?_
        refine wk_callV C hR (As := []) (cnt := 0) (tX9_total (l := l) hWS3 (wf_Entry_row hWS3 hIS3).2 h) rfl (wkGoodV (List.mem_of_getElem? (i := 11) rfl) (List.mem_of_getElem? (i := 12) rfl) (List.mem_of_getElem? (i := 13) rfl) (List.mem_of_getElem? (i := 14) rfl) hbX11_checksum_X9_total gdX9_total) (Nat.le_trans (by decide : 0 + 1 ≤ 56) hd) (by decide) (wf_Entry_row hWS3 hIS3).2.1 (fun cy => wAt_9 cy _ (wf_Entry_row hWS3 hIS3).2.2) rfl ⟨by decide, by decide, by decide +kernel⟩ rfl rfl (Nat.le_of_ble_eq_true rfl) hk5 hn6 dX11_checksum_70 (fun v' S11 hp => ?_)
        obtain ⟨v10, rfl, h, hWS11, hXS11⟩ := hp
        refine wk_ladd C dX11_checksum_73 rfl ?_
        obtain ⟨x15, ex15, h⟩ := wkLt_some h
        refine wk_topl ex15 ?_
        refine wk_lstore_n C (lv' := [some (.ref l0A), some (.long x15), none, some (.int l3I), some (.ref v2)]) dX11_checksum_74 rfl (by decide) rfl ?_
        obtain ⟨x16, ex16, h⟩ := wkLt_some h
        refine wk_iinc C (lv' := [some (.ref l0A), some (.long x15), none, some (.int x16), some (.ref v2)]) dX11_checksum_75 rfl (by rw [ex16]; rfl) (by decide) rfl ?_
        refine wk_goto C (tgt := 6) dX11_checksum_78 (by decide) ?_
        exact wk_forget (lv' := [some (.ref l0A), some (.long x15), none, some (.int x16), none]) (wkLs.le ⟨rfl, rfl, rfl, trivial⟩) (ih _ _ hk5 hn6 _ _ _ _ hWS11 (wkExt.tr (wkExt.tr hE hXS3) hXS11) (hXS11 _ _ (hXS3 _ _ hl0A)) h)
set_option maxHeartbeats 4000000 in
set_option maxRecDepth 100000 in
theorem tX11_checksum {l : Launch} {g : wkG} {F : Nat} {k n : Nat}  {S : wPS} {l0A : Nat} {Φ : (Int64 → wPS → Prop)} {Ψ : String → wPS → Prop} (hst : wkSta g) (hex : wkExA g) (hlt : l.stackTraces = false) (hW : wkWF S) (hl0A : wkIs S l0A 11) (h : rX11_checksum F k n l0A S Φ Ψ) : wkMetX l g yX11_checksum wvX11_checksum 56 k n [.ref l0A] S (fun v' S'' => ∃ v : Int64, v' = some (.long v) ∧ Φ v S'' ∧ wkWF S'' ∧ wkExt S S'') (fun E S'' => Ψ E S'' ∧ wkWF S'' ∧ wkExt S S'') := by
  refine wkMetX_of (ret := (some .long)) (by decide) rfl (Nat.le_of_ble_eq_true rfl) rfl hex hlt (by decide) (fun X hg C hR E EX ET => ?_)
  subst hg
  have hE : wkExt S S := wkExt.rf
  have hd : 56 ≤ 56 := Nat.le_refl _
  show wkGo l X 5 0 0 0 S [some (.ref l0A), none, none, none, none] []
  have ih := tX11_checksum_go (F := F) hst C hR hd hex hlt EX ET E F
  have h : rX11_checksum_s F k n (rX11_checksum_go F k n F) l0A S Φ Ψ := h
  unfold rX11_checksum_s at h
  refine wk_ldc2 C (v := 7) (List.mem_of_getElem? (i := 15) rfl) dX11_checksum_0 ?_
  refine wk_lstore_n C (lv' := [some (.ref l0A), some (.long (7 : Int64)), none, none, none]) dX11_checksum_3 rfl (by decide) rfl ?_
  refine wk_iconst C (v := 0) dX11_checksum_4 (by decide) ?_
  refine wk_istore_n C (lv' := [some (.ref l0A), some (.long (7 : Int64)), none, some (.int (0 : Int32)), none]) dX11_checksum_5 rfl (by decide) rfl ?_
  exact wk_forget (lv' := [some (.ref l0A), some (.long (7 : Int64)), none, some (.int (0 : Int32)), none]) (wkLs.le ⟨rfl, rfl, rfl, trivial⟩) (ih _ _ (Nat.zero_le _) (Nat.zero_le _) _ _ _ _ hW hE hl0A h)
def wvX11_isSound : List Cond := .code yX11_isSound cX11_isSound 2 (some .boolean) :: (([.fieldLink RX11 86 "Witnessworks" "entryCount" "I", .methodLink RX11 144 yX11_refreshed, .instanceMethod yX11_refreshed, .selects RX11 yX11_refreshed yX11_refreshed, .initialized RX11, .fieldLink RX11 18 "Witnessworks" "book" "[LWitnessworks$Entry;", .methodLink RX11 450 yX11_isSoundEntry, .instanceMethod yX11_isSoundEntry, .selects RX11 yX11_isSoundEntry yX11_isSoundEntry, .fieldLink RX11 395 "Witnessworks" "claimCount" "I", .fieldLink RX11 56 "Witnessworks" "claims" "[LWitnessworks$Claim;", .methodLink RX11 453 yX11_isUnsoundClaim, .instanceMethod yX11_isUnsoundClaim, .selects RX11 yX11_isUnsoundClaim yX11_isUnsoundClaim] : List Cond) ++ ((wsX110) ++ (wvX11_refreshed ++ (wvX11_isSoundEntry ++ (wvX11_isUnsoundClaim)))))
theorem huX11_isSound_11 : ∀ w ∈ u_ws RX11 TX11 19, w ∈ wvX11_isSound := fun w h => List.mem_cons_of_mem _ (List.mem_append_right _ (List.mem_append_left _ h))
theorem hbX11_isSound_X11_refreshed : ∀ w ∈ wvX11_refreshed, w ∈ wvX11_isSound := fun w h => List.mem_cons_of_mem _ (List.mem_append_right _ (List.mem_append_right _ (List.mem_append_left _ h)))
theorem hbX11_isSound_X11_isSoundEntry : ∀ w ∈ wvX11_isSoundEntry, w ∈ wvX11_isSound := fun w h => List.mem_cons_of_mem _ (List.mem_append_right _ (List.mem_append_right _ (List.mem_append_right _ (List.mem_append_left _ h))))
theorem hbX11_isSound_X11_isUnsoundClaim : ∀ w ∈ wvX11_isUnsoundClaim, w ∈ wvX11_isSound := fun w h => List.mem_cons_of_mem _ (List.mem_append_right _ (List.mem_append_right _ (List.mem_append_right _ (List.mem_append_right _ h))))
theorem gdX11_isSound : ∀ w ∈ wvX11_isSound, wkGd w := wkGdC rfl (wkGdA (wkGdL (by decide +kernel)) (wkGdA gdX11 (wkGdA gdX11_refreshed (wkGdA gdX11_isSoundEntry gdX11_isUnsoundClaim))))
def rX11_isSound_b0 (F : Nat) (k n : Nat) (rec : Nat → Nat → Nat → Nat → Int32 → wPS → (Int32 → wPS → Prop) → (String → wPS → Prop) → Prop) (c s : Nat) (l0A : Nat) (l1I : Int32) (S : wPS) (Φ : (Int32 → wPS → Prop)) (Ψ : String → wPS → Prop) : Prop :=
  if (gWitnessworks_entryCount S l0A) ≤ l1I then (rec 1 c s l0A (0 : Int32) S Φ Ψ) else (∃ k5 n6 : Nat, c + k5 ≤ k ∧ s + n6 ≤ n ∧ rX11_refreshed F k5 n6 l0A l1I S (fun v2 S3 => wkLt (l1I + (1 : Int32)) fun x7 => rec 0 (c + k5) (s + n6) l0A x7 S3 Φ Ψ) Ψ)
def rX11_isSound_b1 (F : Nat) (k n : Nat) (rec : Nat → Nat → Nat → Nat → Int32 → wPS → (Int32 → wPS → Prop) → (String → wPS → Prop) → Prop) (c s : Nat) (l0A : Nat) (l1I : Int32) (S : wPS) (Φ : (Int32 → wPS → Prop)) (Ψ : String → wPS → Prop) : Prop :=
  if (gWitnessworks_entryCount S l0A) ≤ l1I then (rec 2 c s l0A (0 : Int32) S Φ Ψ) else (¬ (l1I < 0 ∨ S.len (wkAd (gWitnessworks_book S l0A)) ≤ (l1I).toNatClampNeg) ∧ rX11_isSoundEntry F l0A (wkAd (S.rA (wkAd (gWitnessworks_book S l0A)) (l1I).toNatClampNeg)) S fun v11 S12 => if v11 = 0 then (Φ (0 : Int32) S12) else (wkLt (l1I + (1 : Int32)) fun x17 => rec 1 c s l0A x17 S12 Φ Ψ))
def rX11_isSound_b2 (F : Nat) (k n : Nat) (rec : Nat → Nat → Nat → Nat → Int32 → wPS → (Int32 → wPS → Prop) → (String → wPS → Prop) → Prop) (c s : Nat) (l0A : Nat) (l1I : Int32) (S : wPS) (Φ : (Int32 → wPS → Prop)) (Ψ : String → wPS → Prop) : Prop :=
  if (gWitnessworks_claimCount S l0A) ≤ l1I then (Φ (1 : Int32) S) else (¬ (l1I < 0 ∨ S.len (wkAd (gWitnessworks_claims S l0A)) ≤ (l1I).toNatClampNeg) ∧ rX11_isUnsoundClaim F l0A (wkAd (S.rA (wkAd (gWitnessworks_claims S l0A)) (l1I).toNatClampNeg)) S fun v21 S22 => if v21 = 0 then (wkLt (l1I + (1 : Int32)) fun x27 => rec 2 c s l0A x27 S22 Φ Ψ) else (Φ (0 : Int32) S22))
def rX11_isSound_go (F : Nat) (k n : Nat) : Nat → Nat → Nat → Nat → Nat → Int32 → wPS → (Int32 → wPS → Prop) → (String → wPS → Prop) → Prop
  | 0, _, _, _, _, _, _, _, _ => False
  | k' + 1, lab, c, s, l0A, l1I, S, Φ, Ψ => if lab = 0 then rX11_isSound_b0 F k n (rX11_isSound_go F k n k') c s l0A l1I S Φ Ψ else if lab = 1 then rX11_isSound_b1 F k n (rX11_isSound_go F k n k') c s l0A l1I S Φ Ψ else if lab = 2 then rX11_isSound_b2 F k n (rX11_isSound_go F k n k') c s l0A l1I S Φ Ψ else False
def rX11_isSound_s (F : Nat) (k n : Nat) (rec : Nat → Nat → Nat → Nat → Int32 → wPS → (Int32 → wPS → Prop) → (String → wPS → Prop) → Prop) (l0A : Nat) (S : wPS) (Φ : (Int32 → wPS → Prop)) (Ψ : String → wPS → Prop) : Prop :=
  rec 0 0 0 l0A (0 : Int32) S Φ Ψ
def rX11_isSound (F : Nat) (k n : Nat) (l0A : Nat) (S : wPS) (Φ : (Int32 → wPS → Prop)) (Ψ : String → wPS → Prop) : Prop := rX11_isSound_s F k n (rX11_isSound_go F k n F) l0A S Φ Ψ
set_option maxHeartbeats 4000000 in
set_option maxRecDepth 100000 in
theorem tX11_isSound_go {k n : Nat} {l : Launch} {X : wkX} {d F : Nat} {S0 : wPS} {Φ : (Int32 → wPS → Prop)} {Ψ : String → wPS → Prop} (hst : wkSta (wkXg X)) (C : wkC X cX11_isSound RX11 2 wvX11_isSound) (hR : wkRm X d k n) (hd : 56 ≤ d) (hex : wkExA (wkXg X)) (hlt : l.stackTraces = false) (EX : wkEndX l X cX11_isSound 2 k n (fun E S'' => Ψ E S'' ∧ wkWF S'' ∧ wkExt S0 S'')) (ET : wkEndT l X cX11_isSound 2 k n (fun E S'' => Ψ E S'' ∧ wkWF S'' ∧ wkExt S0 S'')) (E : wkEnd l X cX11_isSound 2 (some .boolean) k n (fun v' S'' => ∃ v : Int32, v' = some (.int v) ∧ Φ v S'' ∧ wkWF S'' ∧ wkExt S0 S'')) : ∀ k' : Nat, (∀ (c s : Nat), c ≤ k → s ≤ n → ∀ (l0A : Nat) (l1I : Int32) (S : wPS), wkWF S → wkExt S0 S → wkIs S l0A 11 → rX11_isSound_go F k n k' 0 c s l0A l1I S Φ Ψ → wkGo l X 2 c s 2 S [some (.ref l0A), some (.int l1I)] []) ∧ (∀ (c s : Nat), c ≤ k → s ≤ n → ∀ (l0A : Nat) (l1I : Int32) (S : wPS), wkWF S → wkExt S0 S → wkIs S l0A 11 → rX11_isSound_go F k n k' 1 c s l0A l1I S Φ Ψ → wkGo l X 2 c s 24 S [some (.ref l0A), some (.int l1I)] []) ∧ (∀ (c s : Nat), c ≤ k → s ≤ n → ∀ (l0A : Nat) (l1I : Int32) (S : wPS), wkWF S → wkExt S0 S → wkIs S l0A 11 → rX11_isSound_go F k n k' 2 c s l0A l1I S Φ Ψ → wkGo l X 2 c s 55 S [some (.ref l0A), some (.int l1I)] []) := by
  intro k'
  induction k' with
  | zero => exact ⟨fun c s hc hs l0A l1I S hW hE hl0A h => h.elim, fun c s hc hs l0A l1I S hW hE hl0A h => h.elim, fun c s hc hs l0A l1I S hW hE hl0A h => h.elim⟩
  | succ k' ih =>
    refine ⟨?_, ?_, ?_⟩
    · intro c s hc hs l0A l1I S hW hE hl0A h
      have h : rX11_isSound_b0 F k n (rX11_isSound_go F k n k') c s l0A l1I S Φ Ψ := by
        rw [rX11_isSound_go, if_pos (rfl : (0 : Nat) = 0)] at h
        exact h
      unfold rX11_isSound_b0 at h
      refine wk_iload_n C dX11_isSound_2 rfl rfl ?_
      refine wk_aload_n C dX11_isSound_3 rfl rfl ?_
      refine wk_get C (v := .int (gWitnessworks_entryCount S l0A)) huX11_isSound_11 hl0A.1 (fun cy => wAt_11 cy _ hl0A.2) rfl 2 (by decide) (List.mem_of_getElem? (i := 1) rfl) rfl rfl dX11_isSound_4 ?_
      refine wk_icmp_ge C (tgt := 22) dX11_isSound_7 (by decide) (fun c1 => ?_) (fun c1 => ?_)
      · rw [if_pos c1] at h
        refine wk_iconst C (v := 0) dX11_isSound_22 (by decide) ?_
        refine wk_istore_n C (lv' := [some (.ref l0A), some (.int (0 : Int32))]) dX11_isSound_23 rfl (by decide) rfl ?_
        exact wk_forget (lv' := [some (.ref l0A), some (.int (0 : Int32))]) (wkLs.le ⟨rfl, rfl, trivial⟩) (ih.2.1 _ _ hc hs _ _ _ hW hE hl0A h)
      · rw [if_neg c1] at h
        refine wk_aload_n C dX11_isSound_10 rfl rfl ?_
        refine wk_iload_n C dX11_isSound_11 rfl rfl ?_
        obtain ⟨k5, n6, hk5, hn6, h⟩ := h
        refine wk_callVX C hR EX (As := [.int l1I]) (cnt := 1) (tX11_refreshed (l := l) hst hex hlt hW hl0A h) rfl (wkGoodV (List.mem_of_getElem? (i := 2) rfl) (List.mem_of_getElem? (i := 3) rfl) (List.mem_of_getElem? (i := 4) rfl) (List.mem_of_getElem? (i := 5) rfl) hbX11_isSound_X11_refreshed gdX11_refreshed) (Nat.le_trans (by decide : 55 + 1 ≤ 56) hd) (by decide) hl0A.1 (fun cy => wAt_11 cy _ hl0A.2) rfl ⟨by decide, by decide, by decide +kernel⟩ rfl rfl (Nat.le_of_ble_eq_true rfl) hk5 hn6 dX11_isSound_12 (fun E S' q => ⟨q.1, q.2.1, wkExt.tr hE q.2.2⟩) (fun v' S3 hp => ?_)
        obtain ⟨v2, rfl, h, hWS3, hXS3, hIS3⟩ := hp
        refine wk_pop C dX11_isSound_15 rfl ?_
        obtain ⟨x7, ex7, h⟩ := wkLt_some h
        refine wk_iinc C (lv' := [some (.ref l0A), some (.int x7)]) dX11_isSound_16 rfl (by rw [ex7]; rfl) (by decide) rfl ?_
        refine wk_goto C (tgt := 2) dX11_isSound_19 (by decide) ?_
        exact wk_forget (lv' := [some (.ref l0A), some (.int x7)]) (wkLs.le ⟨rfl, rfl, trivial⟩) (ih.1 _ _ hk5 hn6 _ _ _ hWS3 (wkExt.tr hE hXS3) (hXS3 _ _ hl0A) h)
    · intro c s hc hs l0A l1I S hW hE hl0A h
      have h : rX11_isSound_b1 F k n (rX11_isSound_go F k n k') c s l0A l1I S Φ Ψ := by
        rw [rX11_isSound_go, if_neg (show ¬ (1 : Nat) = 0 by decide), if_pos (rfl : (1 : Nat) = 1)] at h
        exact h
      unfold rX11_isSound_b1 at h
      refine wk_iload_n C dX11_isSound_24 rfl rfl ?_
      refine wk_aload_n C dX11_isSound_25 rfl rfl ?_
      refine wk_get C (v := .int (gWitnessworks_entryCount S l0A)) huX11_isSound_11 hl0A.1 (fun cy => wAt_11 cy _ hl0A.2) rfl 2 (by decide) (List.mem_of_getElem? (i := 1) rfl) rfl rfl dX11_isSound_26 ?_
      refine wk_icmp_ge C (tgt := 53) dX11_isSound_29 (by decide) (fun c8 => ?_) (fun c8 => ?_)
      · rw [if_pos c8] at h
        refine wk_iconst C (v := 0) dX11_isSound_53 (by decide) ?_
        refine wk_istore_n C (lv' := [some (.ref l0A), some (.int (0 : Int32))]) dX11_isSound_54 rfl (by decide) rfl ?_
        exact wk_forget (lv' := [some (.ref l0A), some (.int (0 : Int32))]) (wkLs.le ⟨rfl, rfl, trivial⟩) (ih.2.2 _ _ hc hs _ _ _ hW hE hl0A h)
      · rw [if_neg c8] at h
        refine wk_aload_n C dX11_isSound_32 rfl rfl ?_
        refine wk_aload_n C dX11_isSound_33 rfl rfl ?_
        refine wk_get C huX11_isSound_11 hl0A.1 (fun cy => wAt_11 cy _ hl0A.2) rfl 1 (by decide) (List.mem_of_getElem? (i := 6) rfl) rfl (congrArg some (congrArg va_rf (wf_Witnessworks_book hW hl0A).1)) dX11_isSound_34 ?_
        refine wk_iload_n C dX11_isSound_37 rfl rfl ?_
        obtain ⟨i9, h⟩ := h
        have w10 := wf_REntry hW (wf_Witnessworks_book hW hl0A).2 (Nat.not_le.mp fun q => i9 (Or.inr q))
        refine wk_aaldEntry C (wf_Witnessworks_book hW hl0A).2.1 (wf_Witnessworks_book hW hl0A).2.2 i9 w10.1 dX11_isSound_38 ?_
        refine wk_callV C hR (As := [.ref (wkAd (S.rA (wkAd (gWitnessworks_book S l0A)) (l1I).toNatClampNeg))]) (cnt := 1) (tX11_isSoundEntry (l := l) hst hW hl0A w10.2 h) rfl (wkGoodV (List.mem_of_getElem? (i := 7) rfl) (List.mem_of_getElem? (i := 8) rfl) (List.mem_of_getElem? (i := 9) rfl) (List.mem_of_getElem? (i := 5) rfl) hbX11_isSound_X11_isSoundEntry gdX11_isSoundEntry) (Nat.le_trans (by decide : 54 + 1 ≤ 56) hd) (by decide) hl0A.1 (fun cy => wAt_11 cy _ hl0A.2) rfl ⟨by decide, by decide, by decide +kernel⟩ rfl rfl (Nat.le_of_ble_eq_true rfl) hc hs dX11_isSound_39 (fun v' S12 hp => ?_)
        obtain ⟨v11, rfl, h, hWS12, hXS12⟩ := hp
        refine wk_if_ne C (tgt := 47) dX11_isSound_42 (by decide) (fun c16 => ?_) (fun c16 => ?_)
        · rw [if_neg c16] at h
          obtain ⟨x17, ex17, h⟩ := wkLt_some h
          refine wk_iinc C (lv' := [some (.ref l0A), some (.int x17)]) dX11_isSound_47 rfl (by rw [ex17]; rfl) (by decide) rfl ?_
          refine wk_goto C (tgt := 24) dX11_isSound_50 (by decide) ?_
          exact wk_forget (lv' := [some (.ref l0A), some (.int x17)]) (wkLs.le ⟨rfl, rfl, trivial⟩) (ih.2.1 _ _ hc hs _ _ _ hWS12 (wkExt.tr hE hXS12) (hXS12 _ _ hl0A) h)
        · rw [if_pos c16] at h
          refine wk_iconst C (v := 0) dX11_isSound_45 (by decide) ?_
          exact E _ _ _ _ _ _ hc hs dX11_isSound_46 rfl ⟨(0 : Int32), rfl, h, hWS12, (wkExt.tr hE hXS12)⟩
    · intro c s hc hs l0A l1I S hW hE hl0A h
      have h : rX11_isSound_b2 F k n (rX11_isSound_go F k n k') c s l0A l1I S Φ Ψ := by
        rw [rX11_isSound_go, if_neg (show ¬ (2 : Nat) = 0 by decide), if_neg (show ¬ (2 : Nat) = 1 by decide), if_pos (rfl : (2 : Nat) = 2)] at h
        exact h
      unfold rX11_isSound_b2 at h
      refine wk_iload_n C dX11_isSound_55 rfl rfl ?_
      refine wk_aload_n C dX11_isSound_56 rfl rfl ?_
      refine wk_get C (v := .int (gWitnessworks_claimCount S l0A)) huX11_isSound_11 hl0A.1 (fun cy => wAt_11 cy _ hl0A.2) rfl 15 (by decide) (List.mem_of_getElem? (i := 10) rfl) rfl rfl dX11_isSound_57 ?_
      refine wk_icmp_ge C (tgt := 84) dX11_isSound_60 (by decide) (fun c18 => ?_) (fun c18 => ?_)
      · rw [if_pos c18] at h
        refine wk_iconst C (v := 1) dX11_isSound_84 (by decide) ?_
        exact E _ _ _ _ _ _ hc hs dX11_isSound_85 rfl ⟨(1 : Int32), rfl, h, hW, hE⟩
      · rw [if_neg c18] at h
        refine wk_aload_n C dX11_isSound_63 rfl rfl ?_
        refine wk_aload_n C dX11_isSound_64 rfl rfl ?_
        refine wk_get C huX11_isSound_11 hl0A.1 (fun cy => wAt_11 cy _ hl0A.2) rfl 14 (by decide) (List.mem_of_getElem? (i := 11) rfl) rfl (congrArg some (congrArg va_rf (wf_Witnessworks_claims hW hl0A).1)) dX11_isSound_65 ?_
        refine wk_iload_n C dX11_isSound_68 rfl rfl ?_
        obtain ⟨i19, h⟩ := h
        have w20 := wf_RClaim hW (wf_Witnessworks_claims hW hl0A).2 (Nat.not_le.mp fun q => i19 (Or.inr q))
        refine wk_aaldClaim C (wf_Witnessworks_claims hW hl0A).2.1 (wf_Witnessworks_claims hW hl0A).2.2 i19 w20.1 dX11_isSound_69 ?_
        refine wk_callV C hR (As := [.ref (wkAd (S.rA (wkAd (gWitnessworks_claims S l0A)) (l1I).toNatClampNeg))]) (cnt := 1) (tX11_isUnsoundClaim (l := l) hW hl0A w20.2 h) rfl (wkGoodV (List.mem_of_getElem? (i := 12) rfl) (List.mem_of_getElem? (i := 13) rfl) (List.mem_of_getElem? (i := 14) rfl) (List.mem_of_getElem? (i := 5) rfl) hbX11_isSound_X11_isUnsoundClaim gdX11_isUnsoundClaim) (Nat.le_trans (by decide : 54 + 1 ≤ 56) hd) (by decide) hl0A.1 (fun cy => wAt_11 cy _ hl0A.2) rfl ⟨by decide, by decide, by decide +kernel⟩ rfl rfl (Nat.le_of_ble_eq_true rfl) hc hs dX11_isSound_70 (fun v' S22 hp => ?_)
        obtain ⟨v21, rfl, h, hWS22, hXS22⟩ := hp
        refine wk_if_eq C (tgt := 78) dX11_isSound_73 (by decide) (fun c26 => ?_) (fun c26 => ?_)
        · rw [if_pos c26] at h
          obtain ⟨x27, ex27, h⟩ := wkLt_some h
          refine wk_iinc C (lv' := [some (.ref l0A), some (.int x27)]) dX11_isSound_78 rfl (by rw [ex27]; rfl) (by decide) rfl ?_
          refine wk_goto C (tgt := 55) dX11_isSound_81 (by decide) ?_
          exact wk_forget (lv' := [some (.ref l0A), some (.int x27)]) (wkLs.le ⟨rfl, rfl, trivial⟩) (ih.2.2 _ _ hc hs _ _ _ hWS22 (wkExt.tr hE hXS22) (hXS22 _ _ hl0A) h)
        · rw [if_neg c26] at h
          refine wk_iconst C (v := 0) dX11_isSound_76 (by decide) ?_
          exact E _ _ _ _ _ _ hc hs dX11_isSound_77 rfl ⟨(0 : Int32), rfl, h, hWS22, (wkExt.tr hE hXS22)⟩
set_option maxHeartbeats 4000000 in
set_option maxRecDepth 100000 in
theorem tX11_isSound {l : Launch} {g : wkG} {F : Nat} {k n : Nat}  {S : wPS} {l0A : Nat} {Φ : (Int32 → wPS → Prop)} {Ψ : String → wPS → Prop} (hst : wkSta g) (hex : wkExA g) (hlt : l.stackTraces = false) (hW : wkWF S) (hl0A : wkIs S l0A 11) (h : rX11_isSound F k n l0A S Φ Ψ) : wkMetX l g yX11_isSound wvX11_isSound 56 k n [.ref l0A] S (fun v' S'' => ∃ v : Int32, v' = some (.int v) ∧ Φ v S'' ∧ wkWF S'' ∧ wkExt S S'') (fun E S'' => Ψ E S'' ∧ wkWF S'' ∧ wkExt S S'') := by
  refine wkMetX_of (ret := (some .boolean)) (by decide) rfl (Nat.le_of_ble_eq_true rfl) rfl hex hlt (by decide) (fun X hg C hR E EX ET => ?_)
  subst hg
  have hE : wkExt S S := wkExt.rf
  have hd : 56 ≤ 56 := Nat.le_refl _
  show wkGo l X 2 0 0 0 S [some (.ref l0A), none] []
  have ih := tX11_isSound_go (F := F) hst C hR hd hex hlt EX ET E F
  have h : rX11_isSound_s F k n (rX11_isSound_go F k n F) l0A S Φ Ψ := h
  unfold rX11_isSound_s at h
  refine wk_iconst C (v := 0) dX11_isSound_0 (by decide) ?_
  refine wk_istore_n C (lv' := [some (.ref l0A), some (.int (0 : Int32))]) dX11_isSound_1 rfl (by decide) rfl ?_
  exact wk_forget (lv' := [some (.ref l0A), some (.int (0 : Int32))]) (wkLs.le ⟨rfl, rfl, trivial⟩) (ih.1 _ _ (Nat.zero_le _) (Nat.zero_le _) _ _ _ hW hE hl0A h)
