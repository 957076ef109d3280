def wvX4_bringBack : List Cond := .code yX4_bringBack cX4_bringBack 5 none :: (([.fieldLink RX4 64 "Witnessworks$Entry" "row" "LWitnessworks$Row;", .fieldLink RX4 286 "Witnessworks$Row" "count" "I", .methodLink RX4 284 yX9_at, .instanceMethod yX9_at, .selects RX9 yX9_at yX9_at, .initialized RX9, .methodLink RX4 289 yX9_add, .instanceMethod yX9_add, .selects RX9 yX9_add yX9_add, .methodLink RX4 70 yX9_clear, .instanceMethod yX9_clear, .selects RX9 yX9_clear yX9_clear, .fieldLink RX4 75 "Witnessworks$Entry" "kind" "I", .fieldLink RX4 280 "Witnessworks$Entry" "reply" "C", .methodLink RX4 297 yX4_bringNodes, .instanceMethod yX4_bringNodes, .selects RX4 yX4_bringNodes yX4_bringNodes, .initialized RX4, .methodLink RX4 293 yX4_bringPairs, .static yX4_bringPairs, .fieldLink RX4 191 "Witnessworks$Entry" "size" "I"] : List Cond) ++ ((wsX30 ++ (wsX90)) ++ (wvX9_at ++ (wvX9_add ++ (wvX9_clear ++ (wvX4_bringNodes ++ (wvX4_bringPairs)))))))
theorem huX4_bringBack_3 : ∀ w ∈ u_ws RX3 TX3 17, w ∈ wvX4_bringBack := fun w h => List.mem_cons_of_mem _ (List.mem_append_right _ (List.mem_append_left _ (List.mem_append_left _ h)))
theorem huX4_bringBack_9 : ∀ w ∈ u_ws RX9 TX9 2, w ∈ wvX4_bringBack := fun w h => List.mem_cons_of_mem _ (List.mem_append_right _ (List.mem_append_left _ (List.mem_append_right _ h)))
theorem hbX4_bringBack_X9_at : ∀ w ∈ wvX9_at, w ∈ wvX4_bringBack := fun w h => List.mem_cons_of_mem _ (List.mem_append_right _ (List.mem_append_right _ (List.mem_append_left _ h)))
theorem hbX4_bringBack_X9_add : ∀ w ∈ wvX9_add, w ∈ wvX4_bringBack := fun w h => List.mem_cons_of_mem _ (List.mem_append_right _ (List.mem_append_right _ (List.mem_append_right _ (List.mem_append_left _ h))))
theorem hbX4_bringBack_X9_clear : ∀ w ∈ wvX9_clear, w ∈ wvX4_bringBack := fun w h => List.mem_cons_of_mem _ (List.mem_append_right _ (List.mem_append_right _ (List.mem_append_right _ (List.mem_append_right _ (List.mem_append_left _ h)))))
theorem hbX4_bringBack_X4_bringNodes : ∀ w ∈ wvX4_bringNodes, w ∈ wvX4_bringBack := fun w h => List.mem_cons_of_mem _ (List.mem_append_right _ (List.mem_append_right _ (List.mem_append_right _ (List.mem_append_right _ (List.mem_append_right _ (List.mem_append_left _ h))))))
theorem hbX4_bringBack_X4_bringPairs : ∀ w ∈ wvX4_bringPairs, w ∈ wvX4_bringBack := fun w h => List.mem_cons_of_mem _ (List.mem_append_right _ (List.mem_append_right _ (List.mem_append_right _ (List.mem_append_right _ (List.mem_append_right _ (List.mem_append_right _ h))))))
theorem gdX4_bringBack : ∀ w ∈ wvX4_bringBack, wkGd w := wkGdC rfl (wkGdA (wkGdL (by decide +kernel)) (wkGdA (wkGdA gdX3 gdX9) (wkGdA gdX9_at (wkGdA gdX9_add (wkGdA gdX9_clear (wkGdA gdX4_bringNodes gdX4_bringPairs))))))
def rX4_bringBack_b0 (F : Nat) (k n : Nat) (rec : Nat → Nat → Nat → Nat → Nat → Int32 → wPS → (Unit → wPS → Prop) → Prop) (c s : Nat) (l1A : Nat) (l3A : Nat) (l4I : Int32) (S : wPS) (Φ : (Unit → wPS → Prop)) : Prop :=
  if (gRow_count S (wkAd (gEntry_row S l1A))) ≤ l4I then (Φ () S) else (rX9_at F (wkAd (gEntry_row S l1A)) l4I S fun v2 S3 => ∃ k10 n11 : Nat, c + k10 ≤ k ∧ s + n11 ≤ n ∧ rX9_add F k10 n11 l3A v2 S3 fun v7 S8 => wkLt (l4I + (1 : Int32)) fun x12 => rec 0 (c + k10) (s + n11) l1A l3A x12 S8 Φ)
def rX4_bringBack_go (F : Nat) (k n : Nat) : Nat → Nat → Nat → Nat → Nat → Nat → Int32 → wPS → (Unit → wPS → Prop) → Prop
  | 0, _, _, _, _, _, _, _, _ => False
  | k' + 1, lab, c, s, l1A, l3A, l4I, S, Φ => if lab = 0 then rX4_bringBack_b0 F k n (rX4_bringBack_go F k n k') c s l1A l3A l4I S Φ else False
def rX4_bringBack_s (F : Nat) (k n : Nat) (rec : Nat → Nat → Nat → Nat → Nat → Int32 → wPS → (Unit → wPS → Prop) → Prop) (l0A : Nat) (l1A : Nat) (l2A : Nat) (l3A : Nat) (S : wPS) (Φ : (Unit → wPS → Prop)) : Prop :=
  rX9_clear F l3A S fun v13 S14 => if (gEntry_kind S14 l1A) = (3 : Int32) then (rec 0 0 0 l1A l3A (1 : Int32) S14 Φ) else (if (gEntry_reply S14 l1A) = (121 : Int32) then (if (gEntry_kind S14 l1A) = (1 : Int32) then (wkLt ((gEntry_size S14 l2A)) fun x31 => ∃ k35 n36 : Nat, 0 + k35 ≤ k ∧ 0 + n36 ≤ n ∧ rX4_bringPairs F k35 n36 (wkAd (gEntry_row S14 l1A)) x31 l2A l3A S14 fun v32 S33 => Φ () S33) else (∃ k29 n30 : Nat, 0 + k29 ≤ k ∧ 0 + n30 ≤ n ∧ rX4_bringPairs F k29 n30 (wkAd (gEntry_row S14 l1A)) (0 : Int32) l2A l3A S14 fun v26 S27 => Φ () S27)) else (∃ k23 n24 : Nat, 0 + k23 ≤ k ∧ 0 + n24 ≤ n ∧ rX4_bringNodes F k23 n24 l0A (wkAd (gEntry_row S14 l1A)) l2A l3A S14 fun v20 S21 => Φ () S21))
def rX4_bringBack (F : Nat) (k n : Nat) (l0A : Nat) (l1A : Nat) (l2A : Nat) (l3A : Nat) (S : wPS) (Φ : (Unit → wPS → Prop)) : Prop := rX4_bringBack_s F k n (rX4_bringBack_go F k n F) l0A l1A l2A l3A S Φ
set_option maxHeartbeats 4000000 in
set_option maxRecDepth 100000 in
theorem tX4_bringBack_go {k n : Nat} {l : Launch} {X : wkX} {d F : Nat} {S0 : wPS} {Φ : (Unit → wPS → Prop)} (C : wkC X cX4_bringBack RX4 5 wvX4_bringBack) (hR : wkRm X d k n) (hd : 4 ≤ d) (E : wkEnd l X cX4_bringBack 5 none k n (fun v' S'' => ∃ v : Unit, v' = none ∧ Φ v S'' ∧ wkWF S'' ∧ wkExt S0 S'')) : ∀ k' : Nat, (∀ (c s : Nat), c ≤ k → s ≤ n → ∀ (l1A : Nat) (l3A : Nat) (l4I : Int32) (S : wPS), wkWF S → wkExt S0 S → wkIs S l1A 3 → wkIs S l3A 9 → rX4_bringBack_go F k n k' 0 c s l1A l3A l4I S Φ → wkGo l X 5 c s 15 S [none, some (.ref l1A), none, some (.ref l3A), some (.int l4I)] []) := by
  intro k'
  induction k' with
  | zero => exact fun c s hc hs l1A l3A l4I S hW hE hl1A hl3A h => h.elim
  | succ k' ih =>
    · intro c s hc hs l1A l3A l4I S hW hE hl1A hl3A h
      have h : rX4_bringBack_b0 F k n (rX4_bringBack_go F k n k') c s l1A l3A l4I S Φ := by
        rw [rX4_bringBack_go, if_pos (rfl : (0 : Nat) = 0)] at h
        exact h
      unfold rX4_bringBack_b0 at h
      refine wk_iload C dX4_bringBack_15 rfl ?_
      refine wk_aload_n C dX4_bringBack_17 rfl rfl ?_
      refine wk_get C huX4_bringBack_3 hl1A.1 (fun cy => wAt_3 cy _ hl1A.2) rfl 13 (by decide) (List.mem_of_getElem? (i := 1) rfl) rfl (congrArg some (congrArg va_rf (wf_Entry_row hW hl1A).1)) dX4_bringBack_18 ?_
      refine wk_get C (v := .int (gRow_count S (wkAd (gEntry_row S l1A)))) huX4_bringBack_9 (wf_Entry_row hW hl1A).2.1 (fun cy => wAt_9 cy _ (wf_Entry_row hW hl1A).2.2) rfl 1 (by decide) (List.mem_of_getElem? (i := 2) rfl) rfl rfl dX4_bringBack_21 ?_
      refine wk_icmp_ge C (tgt := 46) dX4_bringBack_24 (by decide) (fun c1 => ?_) (fun c1 => ?_)
      · rw [if_pos c1] at h
        refine wk_goto C (tgt := 100) dX4_bringBack_46 (by decide) ?_
        exact E _ _ _ _ _ hc hs dX4_bringBack_100 ⟨(), rfl, h, hW, hE⟩
      · rw [if_neg c1] at h
        refine wk_aload_n C dX4_bringBack_27 rfl rfl ?_
        refine wk_aload_n C dX4_bringBack_28 rfl rfl ?_
        refine wk_get C huX4_bringBack_3 hl1A.1 (fun cy => wAt_3 cy _ hl1A.2) rfl 13 (by decide) (List.mem_of_getElem? (i := 1) rfl) rfl (congrArg some (congrArg va_rf (wf_Entry_row hW hl1A).1)) dX4_bringBack_29 ?_
        refine wk_iload C dX4_bringBack_32 rfl ?_
        refine wk_callV C hR (As := [.int l4I]) (cnt := 1) (tX9_at (l := l) hW (wf_Entry_row hW hl1A).2 h) rfl (wkGoodV (List.mem_of_getElem? (i := 3) rfl) (List.mem_of_getElem? (i := 4) rfl) (List.mem_of_getElem? (i := 5) rfl) (List.mem_of_getElem? (i := 6) rfl) hbX4_bringBack_X9_at gdX9_at) (Nat.le_trans (by decide : 0 + 1 ≤ 4) hd) (by decide) (wf_Entry_row hW hl1A).2.1 (fun cy => wAt_9 cy _ (wf_Entry_row hW hl1A).2.2) rfl ⟨by decide, by decide, by decide +kernel⟩ rfl rfl (Nat.le_of_ble_eq_true rfl) hc hs dX4_bringBack_34 (fun v' S3 hp => ?_)
        obtain ⟨v2, rfl, h, hWS3, hXS3⟩ := hp
        obtain ⟨k10, n11, hk10, hn11, h⟩ := h
        refine wk_callV C hR (As := [.int v2]) (cnt := 1) (tX9_add (l := l) hWS3 (hXS3 _ _ hl3A) h) rfl (wkGoodV (List.mem_of_getElem? (i := 7) rfl) (List.mem_of_getElem? (i := 8) rfl) (List.mem_of_getElem? (i := 9) rfl) (List.mem_of_getElem? (i := 6) rfl) hbX4_bringBack_X9_add gdX9_add) (Nat.le_trans (by decide : 2 + 1 ≤ 4) hd) (by decide) (hXS3 _ _ hl3A).1 (fun cy => wAt_9 cy _ (hXS3 _ _ hl3A).2) rfl ⟨by decide, by decide, by decide +kernel⟩ rfl rfl (Nat.le_of_ble_eq_true rfl) hk10 hn11 dX4_bringBack_37 (fun v' S8 hp => ?_)
        obtain ⟨v7, rfl, h, hWS8, hXS8⟩ := hp
        obtain ⟨x12, ex12, h⟩ := wkLt_some h
        refine wk_iinc C (lv' := [none, some (.ref l1A), none, some (.ref l3A), some (.int x12)]) dX4_bringBack_40 rfl (by rw [ex12]; rfl) (by decide) rfl ?_
        refine wk_goto C (tgt := 15) dX4_bringBack_43 (by decide) ?_
        exact wk_forget (lv' := [none, some (.ref l1A), none, some (.ref l3A), some (.int x12)]) (wkLs.le ⟨rfl, rfl, rfl, trivial⟩) (ih _ _ hk10 hn11 _ _ _ _ hWS8 (wkExt.tr (wkExt.tr hE hXS3) hXS8) (hXS8 _ _ (hXS3 _ _ hl1A)) (hXS8 _ _ (hXS3 _ _ hl3A)) h)
set_option maxHeartbeats 4000000 in
set_option maxRecDepth 100000 in
theorem tX4_bringBack {l : Launch} {g : wkG} {F : Nat} {k n : Nat}  {S : wPS} {l0A : Nat} {l1A : Nat} {l2A : Nat} {l3A : Nat} {Φ : (Unit → wPS → Prop)} (hW : wkWF S) (hl0A : wkIs S l0A 4) (hl1A : wkIs S l1A 3) (hl2A : wkIs S l2A 3) (hl3A : wkIs S l3A 9) (h : rX4_bringBack F k n l0A l1A l2A l3A S Φ) : wkMet l g yX4_bringBack wvX4_bringBack 4 k n [.ref l0A, .ref l1A, .ref l2A, .ref l3A] S (fun v' S'' => ∃ v : Unit, v' = none ∧ Φ v S'' ∧ wkWF S'' ∧ wkExt S S'') := by
  refine wkMet_of (ret := none) (by decide) rfl (Nat.le_of_ble_eq_true rfl) (fun X hg C hR E => ?_)
  subst hg
  have hE : wkExt S S := wkExt.rf
  have hd : 4 ≤ 4 := Nat.le_refl _
  show wkGo l X 5 0 0 0 S [some (.ref l0A), some (.ref l1A), some (.ref l2A), some (.ref l3A), none] []
  have ih := tX4_bringBack_go (F := F) C hR hd E F
  have h : rX4_bringBack_s F k n (rX4_bringBack_go F k n F) l0A l1A l2A l3A S Φ := h
  unfold rX4_bringBack_s at h
  refine wk_aload_n C dX4_bringBack_0 rfl rfl ?_
  refine wk_callV C hR (As := []) (cnt := 0) (tX9_clear (l := l) hW hl3A h) rfl (wkGoodV (List.mem_of_getElem? (i := 10) rfl) (List.mem_of_getElem? (i := 11) rfl) (List.mem_of_getElem? (i := 12) rfl) (List.mem_of_getElem? (i := 6) rfl) hbX4_bringBack_X9_clear gdX9_clear) (Nat.le_trans (by decide : 0 + 1 ≤ 4) hd) (by decide) hl3A.1 (fun cy => wAt_9 cy _ hl3A.2) rfl ⟨by decide, by decide, by decide +kernel⟩ rfl rfl (Nat.le_of_ble_eq_true rfl) (Nat.zero_le _) (Nat.zero_le _) dX4_bringBack_1 (fun v' S14 hp => ?_)
  obtain ⟨v13, rfl, h, hWS14, hXS14⟩ := hp
  refine wk_aload_n C dX4_bringBack_4 rfl rfl ?_
  refine wk_get C (v := .int (gEntry_kind S14 l1A)) huX4_bringBack_3 (hXS14 _ _ hl1A).1 (fun cy => wAt_3 cy _ (hXS14 _ _ hl1A).2) rfl 0 (by decide) (List.mem_of_getElem? (i := 13) rfl) rfl rfl dX4_bringBack_5 ?_
  refine wk_iconst C (v := 3) dX4_bringBack_8 (by decide) ?_
  refine wk_icmp_ne C (tgt := 49) dX4_bringBack_9 (by decide) (fun c18 => ?_) (fun c18 => ?_)
  · rw [if_neg c18] at h
    refine wk_aload_n C dX4_bringBack_49 rfl rfl ?_
    refine wk_get C (v := .int (gEntry_reply S14 l1A)) huX4_bringBack_3 (hXS14 _ _ hl1A).1 (fun cy => wAt_3 cy _ (hXS14 _ _ hl1A).2) rfl 11 (by decide) (List.mem_of_getElem? (i := 14) rfl) rfl rfl dX4_bringBack_50 ?_
    refine wk_bipush C (v := 121) dX4_bringBack_53 (by decide) ?_
    refine wk_icmp_ne C (tgt := 90) dX4_bringBack_55 (by decide) (fun c19 => ?_) (fun c19 => ?_)
    · rw [if_neg c19] at h
      refine wk_aload_n C dX4_bringBack_90 rfl rfl ?_
      refine wk_aload_n C dX4_bringBack_91 rfl rfl ?_
      refine wk_get C huX4_bringBack_3 (hXS14 _ _ hl1A).1 (fun cy => wAt_3 cy _ (hXS14 _ _ hl1A).2) rfl 13 (by decide) (List.mem_of_getElem? (i := 1) rfl) rfl (congrArg some (congrArg va_rf (wf_Entry_row hWS14 (hXS14 _ _ hl1A)).1)) dX4_bringBack_92 ?_
      refine wk_aload_n C dX4_bringBack_95 rfl rfl ?_
      refine wk_aload_n C dX4_bringBack_96 rfl rfl ?_
      obtain ⟨k23, n24, hk23, hn24, h⟩ := h
      refine wk_callV C hR (As := [.ref (wkAd (gEntry_row S14 l1A)), .ref l2A, .ref l3A]) (cnt := 3) (tX4_bringNodes (l := l) hWS14 (hXS14 _ _ hl0A) (wf_Entry_row hWS14 (hXS14 _ _ hl1A)).2 (hXS14 _ _ hl2A) (hXS14 _ _ hl3A) h) rfl (wkGoodV (List.mem_of_getElem? (i := 15) rfl) (List.mem_of_getElem? (i := 16) rfl) (List.mem_of_getElem? (i := 17) rfl) (List.mem_of_getElem? (i := 18) rfl) hbX4_bringBack_X4_bringNodes gdX4_bringNodes) (Nat.le_trans (by decide : 3 + 1 ≤ 4) hd) (by decide) (hXS14 _ _ hl0A).1 (fun cy => wAt_4 cy _ (hXS14 _ _ hl0A).2) rfl ⟨by decide, by decide, by decide +kernel⟩ rfl rfl (Nat.le_of_ble_eq_true rfl) hk23 hn24 dX4_bringBack_97 (fun v' S21 hp => ?_)
      obtain ⟨v20, rfl, h, hWS21, hXS21⟩ := hp
      exact E _ _ _ _ _ hk23 hn24 dX4_bringBack_100 ⟨(), rfl, h, hWS21, (wkExt.tr (wkExt.tr hE hXS14) hXS21)⟩
    · rw [if_pos c19] at h
      refine wk_aload_n C dX4_bringBack_58 rfl rfl ?_
      refine wk_get C (v := .int (gEntry_kind S14 l1A)) huX4_bringBack_3 (hXS14 _ _ hl1A).1 (fun cy => wAt_3 cy _ (hXS14 _ _ hl1A).2) rfl 0 (by decide) (List.mem_of_getElem? (i := 13) rfl) rfl rfl dX4_bringBack_59 ?_
      refine wk_iconst C (v := 1) dX4_bringBack_62 (by decide) ?_
      refine wk_icmp_ne C (tgt := 73) dX4_bringBack_63 (by decide) (fun c25 => ?_) (fun c25 => ?_)
      · rw [if_neg c25] at h
        refine wk_iconst C (v := 0) dX4_bringBack_73 (by decide) ?_
        refine wk_istore C (lv' := [some (.ref l0A), some (.ref l1A), some (.ref l2A), some (.ref l3A), some (.int (0 : Int32))]) dX4_bringBack_74 (by decide) rfl ?_
        refine wk_aload_n C dX4_bringBack_76 rfl rfl ?_
        refine wk_get C huX4_bringBack_3 (hXS14 _ _ hl1A).1 (fun cy => wAt_3 cy _ (hXS14 _ _ hl1A).2) rfl 13 (by decide) (List.mem_of_getElem? (i := 1) rfl) rfl (congrArg some (congrArg va_rf (wf_Entry_row hWS14 (hXS14 _ _ hl1A)).1)) dX4_bringBack_77 ?_
        refine wk_iload C dX4_bringBack_80 rfl ?_
        refine wk_aload_n C dX4_bringBack_82 rfl rfl ?_
        refine wk_aload_n C dX4_bringBack_83 rfl rfl ?_
        obtain ⟨k29, n30, hk29, hn30, h⟩ := h
        refine wk_callW C hR (As := [.ref (wkAd (gEntry_row S14 l1A)), .int (0 : Int32), .ref l2A, .ref l3A]) (cnt := 4) (tX4_bringPairs (l := l) hWS14 (wf_Entry_row hWS14 (hXS14 _ _ hl1A)).2 (hXS14 _ _ hl2A) (hXS14 _ _ hl3A) h) rfl (wkGoodW (List.mem_of_getElem? (i := 19) rfl) (List.mem_of_getElem? (i := 20) rfl) (List.mem_of_getElem? (i := 18) rfl) hbX4_bringBack_X4_bringPairs gdX4_bringPairs) (Nat.le_trans (by decide : 3 + 1 ≤ 4) hd) (by decide) ⟨by decide, by decide, by decide +kernel⟩ rfl rfl (Nat.le_of_ble_eq_true rfl) hk29 hn30 dX4_bringBack_84 (fun v' S27 hp => ?_)
        obtain ⟨v26, rfl, h, hWS27, hXS27⟩ := hp
        refine wk_goto C (tgt := 100) dX4_bringBack_87 (by decide) ?_
        exact E _ _ _ _ _ hk29 hn30 dX4_bringBack_100 ⟨(), rfl, h, hWS27, (wkExt.tr (wkExt.tr hE hXS14) hXS27)⟩
      · rw [if_pos c25] at h
        refine wk_aload_n C dX4_bringBack_66 rfl rfl ?_
        refine wk_get C (v := .int (gEntry_size S14 l2A)) huX4_bringBack_3 (hXS14 _ _ hl2A).1 (fun cy => wAt_3 cy _ (hXS14 _ _ hl2A).2) rfl 1 (by decide) (List.mem_of_getElem? (i := 21) rfl) rfl rfl dX4_bringBack_67 ?_
        refine wk_goto C (tgt := 74) dX4_bringBack_70 (by decide) ?_
        obtain ⟨x31, ex31, h⟩ := wkLt_some h
        refine wk_topi ex31 ?_
        refine wk_istore C (lv' := [some (.ref l0A), some (.ref l1A), some (.ref l2A), some (.ref l3A), some (.int x31)]) dX4_bringBack_74 (by decide) rfl ?_
        refine wk_aload_n C dX4_bringBack_76 rfl rfl ?_
        refine wk_get C huX4_bringBack_3 (hXS14 _ _ hl1A).1 (fun cy => wAt_3 cy _ (hXS14 _ _ hl1A).2) rfl 13 (by decide) (List.mem_of_getElem? (i := 1) rfl) rfl (congrArg some (congrArg va_rf (wf_Entry_row hWS14 (hXS14 _ _ hl1A)).1)) dX4_bringBack_77 ?_
        refine wk_iload C dX4_bringBack_80 rfl ?_
        refine wk_aload_n C dX4_bringBack_82 rfl rfl ?_
        refine wk_aload_n C dX4_bringBack_83 rfl rfl ?_
        obtain ⟨k35, n36, hk35, hn36, h⟩ := h
        refine wk_callW C hR (As := [.ref (wkAd (gEntry_row S14 l1A)), .int x31, .ref l2A, .ref l3A]) (cnt := 4) (tX4_bringPairs (l := l) hWS14 (wf_Entry_row hWS14 (hXS14 _ _ hl1A)).2 (hXS14 _ _ hl2A) (hXS14 _ _ hl3A) h) rfl (wkGoodW (List.mem_of_getElem? (i := 19) rfl) (List.mem_of_getElem? (i := 20) rfl) (List.mem_of_getElem? (i := 18) rfl) hbX4_bringBack_X4_bringPairs gdX4_bringPairs) (Nat.le_trans (by decide : 3 + 1 ≤ 4) hd) (by decide) ⟨by decide, by decide, by decide +kernel⟩ rfl rfl (Nat.le_of_ble_eq_true rfl) hk35 hn36 dX4_bringBack_84 (fun v' S33 hp => ?_)
        obtain ⟨v32, rfl, h, hWS33, hXS33⟩ := hp
        refine wk_goto C (tgt := 100) dX4_bringBack_87 (by decide) ?_
        exact E _ _ _ _ _ hk35 hn36 dX4_bringBack_100 ⟨(), rfl, h, hWS33, (wkExt.tr (wkExt.tr hE hXS14) hXS33)⟩
  · rw [if_pos c18] at h
    refine wk_iconst C (v := 1) dX4_bringBack_12 (by decide) ?_
    refine wk_istore C (lv' := [some (.ref l0A), some (.ref l1A), some (.ref l2A), some (.ref l3A), some (.int (1 : Int32))]) dX4_bringBack_13 (by decide) rfl ?_
    exact wk_forget (lv' := [none, some (.ref l1A), none, some (.ref l3A), some (.int (1 : Int32))]) (wkLs.le ⟨rfl, rfl, rfl, trivial⟩) (ih _ _ (Nat.zero_le _) (Nat.zero_le _) _ _ _ _ hWS14 (wkExt.tr hE hXS14) (hXS14 _ _ hl1A) (hXS14 _ _ hl3A) h)
def wvX5_solve : List Cond := .code yX5_solve cX5_solve 6 none :: (([.fieldLink RX5 23 "Witnessworks$Entry" "itemCount" "I", .methodLink RX5 29 yX5_loadUnknowns, .instanceMethod yX5_loadUnknowns, .selects RX5 yX5_loadUnknowns yX5_loadUnknowns, .initialized RX5, .methodLink RX5 33 yX5_isFulfilled, .instanceMethod yX5_isFulfilled, .selects RX5 yX5_isFulfilled yX5_isFulfilled, .methodLink RX5 76 yX5_loadWeights, .instanceMethod yX5_loadWeights, .selects RX5 yX5_loadWeights yX5_loadWeights, .fieldLink RX5 68 "Witnessworks$Entry" "row" "LWitnessworks$Row;", .methodLink RX5 72 yX5_writeLeast, .instanceMethod yX5_writeLeast, .selects RX5 yX5_writeLeast yX5_writeLeast, .methodLink RX5 64 yX3_tell, .instanceMethod yX3_tell, .selects RX3 yX3_tell yX3_tell, .initialized RX3, .fieldLink RX5 37 "Witnessworks$Entry" "size" "I", .methodLink RX5 40 yX5_minimise, .instanceMethod yX5_minimise, .selects RX5 yX5_minimise yX5_minimise, .fieldLink RX5 44 "Witnessworks$Entry" "boundNow" "I", .fieldLink RX5 47 "Witnessworks$Inequalities" "lower" "J", .methodLink RX5 51 yX5_valueOf, .instanceMethod yX5_valueOf, .selects RX5 yX5_valueOf yX5_valueOf, .methodLink RX5 55 Lib.MathLoose.max_long.x, .static Lib.MathLoose.max_long.x, .initialized "java/lang/Math", .code Lib.MathLoose.max_long.x Lib.MathLoose.max_long.code 4 (some .long), .methodLink RX5 61 yJ9_floorDiv_f86c9, .static yJ9_floorDiv_f86c9, .initialized RJ9] : List Cond) ++ ((wsX30 ++ (wsX50)) ++ (wvX5_loadUnknowns ++ (wvX5_isFulfilled ++ (wvX5_loadWeights ++ (wvX5_writeLeast ++ (wvX3_tell ++ (wvX5_minimise ++ (wvX5_valueOf ++ (wvJ9_floorDiv_f86c9))))))))))
theorem huX5_solve_3 : ∀ w ∈ u_ws RX3 TX3 17, w ∈ wvX5_solve := fun w h => List.mem_cons_of_mem _ (List.mem_append_right _ (List.mem_append_left _ (List.mem_append_left _ h)))
theorem huX5_solve_5 : ∀ w ∈ u_ws RX5 TX5 7, w ∈ wvX5_solve := fun w h => List.mem_cons_of_mem _ (List.mem_append_right _ (List.mem_append_left _ (List.mem_append_right _ h)))
theorem hbX5_solve_X5_loadUnknowns : ∀ w ∈ wvX5_loadUnknowns, w ∈ wvX5_solve := fun w h => List.mem_cons_of_mem _ (List.mem_append_right _ (List.mem_append_right _ (List.mem_append_left _ h)))
theorem hbX5_solve_X5_isFulfilled : ∀ w ∈ wvX5_isFulfilled, w ∈ wvX5_solve := fun w h => List.mem_cons_of_mem _ (List.mem_append_right _ (List.mem_append_right _ (List.mem_append_right _ (List.mem_append_left _ h))))
theorem hbX5_solve_X5_loadWeights : ∀ w ∈ wvX5_loadWeights, w ∈ wvX5_solve := fun w h => List.mem_cons_of_mem _ (List.mem_append_right _ (List.mem_append_right _ (List.mem_append_right _ (List.mem_append_right _ (List.mem_append_left _ h)))))
theorem hbX5_solve_X5_writeLeast : ∀ w ∈ wvX5_writeLeast, w ∈ wvX5_solve := fun w h => List.mem_cons_of_mem _ (List.mem_append_right _ (List.mem_append_right _ (List.mem_append_right _ (List.mem_append_right _ (List.mem_append_right _ (List.mem_append_left _ h))))))
theorem hbX5_solve_X3_tell : ∀ w ∈ wvX3_tell, w ∈ wvX5_solve := fun w h => List.mem_cons_of_mem _ (List.mem_append_right _ (List.mem_append_right _ (List.mem_append_right _ (List.mem_append_right _ (List.mem_append_right _ (List.mem_append_right _ (List.mem_append_left _ h)))))))
theorem hbX5_solve_X5_minimise : ∀ w ∈ wvX5_minimise, w ∈ wvX5_solve := fun w h => List.mem_cons_of_mem _ (List.mem_append_right _ (List.mem_append_right _ (List.mem_append_right _ (List.mem_append_right _ (List.mem_append_right _ (List.mem_append_right _ (List.mem_append_right _ (List.mem_append_left _ h))))))))
theorem hbX5_solve_X5_valueOf : ∀ w ∈ wvX5_valueOf, w ∈ wvX5_solve := fun w h => List.mem_cons_of_mem _ (List.mem_append_right _ (List.mem_append_right _ (List.mem_append_right _ (List.mem_append_right _ (List.mem_append_right _ (List.mem_append_right _ (List.mem_append_right _ (List.mem_append_right _ (List.mem_append_left _ h)))))))))
theorem hbX5_solve_J9_floorDiv_f86c9 : ∀ w ∈ wvJ9_floorDiv_f86c9, w ∈ wvX5_solve := fun w h => List.mem_cons_of_mem _ (List.mem_append_right _ (List.mem_append_right _ (List.mem_append_right _ (List.mem_append_right _ (List.mem_append_right _ (List.mem_append_right _ (List.mem_append_right _ (List.mem_append_right _ (List.mem_append_right _ h)))))))))
theorem gdX5_solve : ∀ w ∈ wvX5_solve, wkGd w := wkGdC rfl (wkGdA (wkGdL (by decide +kernel)) (wkGdA (wkGdA gdX3 gdX5) (wkGdA gdX5_loadUnknowns (wkGdA gdX5_isFulfilled (wkGdA gdX5_loadWeights (wkGdA gdX5_writeLeast (wkGdA gdX3_tell (wkGdA gdX5_minimise (wkGdA gdX5_valueOf gdJ9_floorDiv_f86c9)))))))))
def rX5_solve (F : Nat) (k n : Nat) (l0A : Nat) (l1A : Nat) (S : wPS) (Φ : (Unit → wPS → Prop)) : Prop :=
  wkLt (((gEntry_itemCount S l1A) + (1 : Int32))) fun x1 => rX5_loadUnknowns F l0A l1A S fun v2 S3 => rX5_isFulfilled F l0A S3 fun v7 S8 => if v7 = 0 then (rX5_loadWeights F l0A l1A S8 fun v13 S14 => rX5_isFulfilled F l0A S14 fun v18 S19 => ∃ k26 n27 : Nat, 0 + k26 ≤ k ∧ 0 + n27 ≤ n ∧ rX5_writeLeast F k26 n27 l0A x1 (wkAd (gEntry_row S19 l1A)) S19 fun v23 S24 => rX3_tell F l1A (0 : Int32) (0 : Int32) S24 fun v28 S29 => Φ () S29) else (wkLt (((gEntry_size S8 l1A) + (gEntry_itemCount S8 l1A))) fun x33 => rX5_minimise F l0A x33 S8 fun v34 S35 => rX5_valueOf F l0A x33 S35 fun v39 S40 => wkLt ((((Int32.toInt64 (gEntry_boundNow S35 l1A)) * (gInequalities_lower S35 l0A)) - v39)) fun x44 => rJ9_floorDiv_f86c9 F x44 (if (gInequalities_lower S40 l0A) < (1 : Int64) then (1 : Int64) else (gInequalities_lower S40 l0A)) S40 fun v45 S46 => rX3_tell F l1A (1 : Int32) (Int64.toInt32 v45) S46 fun v50 S51 => rX5_loadUnknowns F l0A l1A S51 fun v55 S56 => rX5_isFulfilled F l0A S56 fun v60 S61 => ∃ k68 n69 : Nat, 0 + k68 ≤ k ∧ 0 + n69 ≤ n ∧ rX5_writeLeast F k68 n69 l0A (gEntry_size S61 l1A) (wkAd (gEntry_row S61 l1A)) S61 fun v65 S66 => Φ () S66)
set_option maxHeartbeats 4000000 in
set_option maxRecDepth 100000 in
theorem tX5_solve {l : Launch} {g : wkG} {F : Nat} {k n : Nat}  {S : wPS} {l0A : Nat} {l1A : Nat} {Φ : (Unit → wPS → Prop)} (hW : wkWF S) (hl0A : wkIs S l0A 5) (hl1A : wkIs S l1A 3) (h : rX5_solve F k n l0A l1A S Φ) : wkMet l g yX5_solve wvX5_solve 5 k n [.ref l0A, .ref l1A] S (fun v' S'' => ∃ v : Unit, v' = none ∧ Φ v S'' ∧ wkWF S'' ∧ wkExt S S'') := by
  refine wkMet_of (ret := none) (by decide) rfl (Nat.le_of_ble_eq_true rfl) (fun X hg C hR E => ?_)
  subst hg
  have hE : wkExt S S := wkExt.rf
  have hd : 5 ≤ 5 := Nat.le_refl _
  show wkGo l X 6 0 0 0 S [some (.ref l0A), some (.ref l1A), none, none, none, none] []
  unfold rX5_solve at h
  refine wk_aload_n C dX5_solve_0 rfl rfl ?_
  refine wk_get C (v := .int (gEntry_itemCount S l1A)) huX5_solve_3 hl1A.1 (fun cy => wAt_3 cy _ hl1A.2) rfl 6 (by decide) (List.mem_of_getElem? (i := 1) rfl) rfl rfl dX5_solve_1 ?_
  refine wk_iconst C (v := 1) dX5_solve_4 (by decide) ?_
  refine wk_iadd C dX5_solve_5 rfl ?_
  obtain ⟨x1, ex1, h⟩ := wkLt_some h
  refine wk_topi ex1 ?_
  refine wk_istore_n C (lv' := [some (.ref l0A), some (.ref l1A), some (.int x1), none, none, none]) dX5_solve_6 rfl (by decide) rfl ?_
  refine wk_aload_n C dX5_solve_7 rfl rfl ?_
  refine wk_aload_n C dX5_solve_8 rfl rfl ?_
  refine wk_callV C hR (As := [.ref l1A]) (cnt := 1) (tX5_loadUnknowns (l := l) hW hl0A hl1A h) rfl (wkGoodV (List.mem_of_getElem? (i := 2) rfl) (List.mem_of_getElem? (i := 3) rfl) (List.mem_of_getElem? (i := 4) rfl) (List.mem_of_getElem? (i := 5) rfl) hbX5_solve_X5_loadUnknowns gdX5_loadUnknowns) (Nat.le_trans (by decide : 2 + 1 ≤ 5) hd) (by decide) hl0A.1 (fun cy => wAt_5 cy _ hl0A.2) rfl ⟨by decide, by decide, by decide +kernel⟩ rfl rfl (Nat.le_of_ble_eq_true rfl) (Nat.zero_le _) (Nat.zero_le _) dX5_solve_9 (fun v' S3 hp => ?_)
  obtain ⟨v2, rfl, h, hWS3, hXS3⟩ := hp
  refine wk_aload_n C dX5_solve_12 rfl rfl ?_
  refine wk_callV C hR (As := []) (cnt := 0) (tX5_isFulfilled (l := l) hWS3 (hXS3 _ _ hl0A) h) rfl (wkGoodV (List.mem_of_getElem? (i := 6) rfl) (List.mem_of_getElem? (i := 7) rfl) (List.mem_of_getElem? (i := 8) rfl) (List.mem_of_getElem? (i := 5) rfl) hbX5_solve_X5_isFulfilled gdX5_isFulfilled) (Nat.le_trans (by decide : 3 + 1 ≤ 5) hd) (by decide) (hXS3 _ _ hl0A).1 (fun cy => wAt_5 cy _ (hXS3 _ _ hl0A).2) rfl ⟨by decide, by decide, by decide +kernel⟩ rfl rfl (Nat.le_of_ble_eq_true rfl) (Nat.zero_le _) (Nat.zero_le _) dX5_solve_13 (fun v' S8 hp => ?_)
  obtain ⟨v7, rfl, h, hWS8, hXS8⟩ := hp
  refine wk_if_eq C (tgt := 96) dX5_solve_16 (by decide) (fun c12 => ?_) (fun c12 => ?_)
  · rw [if_pos c12] at h
    refine wk_aload_n C dX5_solve_96 rfl rfl ?_
    refine wk_aload_n C dX5_solve_97 rfl rfl ?_
    refine wk_callV C hR (As := [.ref l1A]) (cnt := 1) (tX5_loadWeights (l := l) hWS8 (hXS8 _ _ (hXS3 _ _ hl0A)) (hXS8 _ _ (hXS3 _ _ hl1A)) h) rfl (wkGoodV (List.mem_of_getElem? (i := 9) rfl) (List.mem_of_getElem? (i := 10) rfl) (List.mem_of_getElem? (i := 11) rfl) (List.mem_of_getElem? (i := 5) rfl) hbX5_solve_X5_loadWeights gdX5_loadWeights) (Nat.le_trans (by decide : 2 + 1 ≤ 5) hd) (by decide) (hXS8 _ _ (hXS3 _ _ hl0A)).1 (fun cy => wAt_5 cy _ (hXS8 _ _ (hXS3 _ _ hl0A)).2) rfl ⟨by decide, by decide, by decide +kernel⟩ rfl rfl (Nat.le_of_ble_eq_true rfl) (Nat.zero_le _) (Nat.zero_le _) dX5_solve_98 (fun v' S14 hp => ?_)
    obtain ⟨v13, rfl, h, hWS14, hXS14⟩ := hp
    refine wk_aload_n C dX5_solve_101 rfl rfl ?_
    refine wk_callV C hR (As := []) (cnt := 0) (tX5_isFulfilled (l := l) hWS14 (hXS14 _ _ (hXS8 _ _ (hXS3 _ _ hl0A))) h) rfl (wkGoodV (List.mem_of_getElem? (i := 6) rfl) (List.mem_of_getElem? (i := 7) rfl) (List.mem_of_getElem? (i := 8) rfl) (List.mem_of_getElem? (i := 5) rfl) hbX5_solve_X5_isFulfilled gdX5_isFulfilled) (Nat.le_trans (by decide : 3 + 1 ≤ 5) hd) (by decide) (hXS14 _ _ (hXS8 _ _ (hXS3 _ _ hl0A))).1 (fun cy => wAt_5 cy _ (hXS14 _ _ (hXS8 _ _ (hXS3 _ _ hl0A))).2) rfl ⟨by decide, by decide, by decide +kernel⟩ rfl rfl (Nat.le_of_ble_eq_true rfl) (Nat.zero_le _) (Nat.zero_le _) dX5_solve_102 (fun v' S19 hp => ?_)
    obtain ⟨v18, rfl, h, hWS19, hXS19⟩ := hp
    refine wk_pop C dX5_solve_105 rfl ?_
    refine wk_aload_n C dX5_solve_106 rfl rfl ?_
    refine wk_iload_n C dX5_solve_107 rfl rfl ?_
    refine wk_aload_n C dX5_solve_108 rfl rfl ?_
    refine wk_get C huX5_solve_3 (hXS19 _ _ (hXS14 _ _ (hXS8 _ _ (hXS3 _ _ hl1A)))).1 (fun cy => wAt_3 cy _ (hXS19 _ _ (hXS14 _ _ (hXS8 _ _ (hXS3 _ _ hl1A)))).2) rfl 13 (by decide) (List.mem_of_getElem? (i := 12) rfl) rfl (congrArg some (congrArg va_rf (wf_Entry_row hWS19 (hXS19 _ _ (hXS14 _ _ (hXS8 _ _ (hXS3 _ _ hl1A))))).1)) dX5_solve_109 ?_
    obtain ⟨k26, n27, hk26, hn27, h⟩ := h
    refine wk_callV C hR (As := [.int x1, .ref (wkAd (gEntry_row S19 l1A))]) (cnt := 2) (tX5_writeLeast (l := l) hWS19 (hXS19 _ _ (hXS14 _ _ (hXS8 _ _ (hXS3 _ _ hl0A)))) (wf_Entry_row hWS19 (hXS19 _ _ (hXS14 _ _ (hXS8 _ _ (hXS3 _ _ hl1A))))).2 h) rfl (wkGoodV (List.mem_of_getElem? (i := 13) rfl) (List.mem_of_getElem? (i := 14) rfl) (List.mem_of_getElem? (i := 15) rfl) (List.mem_of_getElem? (i := 5) rfl) hbX5_solve_X5_writeLeast gdX5_writeLeast) (Nat.le_trans (by decide : 4 + 1 ≤ 5) hd) (by decide) (hXS19 _ _ (hXS14 _ _ (hXS8 _ _ (hXS3 _ _ hl0A)))).1 (fun cy => wAt_5 cy _ (hXS19 _ _ (hXS14 _ _ (hXS8 _ _ (hXS3 _ _ hl0A)))).2) rfl ⟨by decide, by decide, by decide +kernel⟩ rfl rfl (Nat.le_of_ble_eq_true rfl) hk26 hn27 dX5_solve_112 (fun v' S24 hp => ?_)
    obtain ⟨v23, rfl, h, hWS24, hXS24⟩ := hp
    refine wk_aload_n C dX5_solve_115 rfl rfl ?_
    refine wk_iconst C (v := 0) dX5_solve_116 (by decide) ?_
    refine wk_iconst C (v := 0) dX5_solve_117 (by decide) ?_
    refine wk_callV C hR (As := [.int (0 : Int32), .int (0 : Int32)]) (cnt := 2) (tX3_tell (l := l) hWS24 (hXS24 _ _ (hXS19 _ _ (hXS14 _ _ (hXS8 _ _ (hXS3 _ _ hl1A))))) h) rfl (wkGoodV (List.mem_of_getElem? (i := 16) rfl) (List.mem_of_getElem? (i := 17) rfl) (List.mem_of_getElem? (i := 18) rfl) (List.mem_of_getElem? (i := 19) rfl) hbX5_solve_X3_tell gdX3_tell) (Nat.le_trans (by decide : 0 + 1 ≤ 5) hd) (by decide) (hXS24 _ _ (hXS19 _ _ (hXS14 _ _ (hXS8 _ _ (hXS3 _ _ hl1A))))).1 (fun cy => wAt_3 cy _ (hXS24 _ _ (hXS19 _ _ (hXS14 _ _ (hXS8 _ _ (hXS3 _ _ hl1A))))).2) rfl ⟨by decide, by decide, by decide +kernel⟩ rfl rfl (Nat.le_of_ble_eq_true rfl) hk26 hn27 dX5_solve_118 (fun v' S29 hp => ?_)
    obtain ⟨v28, rfl, h, hWS29, hXS29⟩ := hp
    exact E _ _ _ _ _ hk26 hn27 dX5_solve_121 ⟨(), rfl, h, hWS29, (wkExt.tr (wkExt.tr (wkExt.tr (wkExt.tr (wkExt.tr (wkExt.tr hE hXS3) hXS8) hXS14) hXS19) hXS24) hXS29)⟩
  · rw [if_neg c12] at h
    refine wk_aload_n C dX5_solve_19 rfl rfl ?_
    refine wk_get C (v := .int (gEntry_size S8 l1A)) huX5_solve_3 (hXS8 _ _ (hXS3 _ _ hl1A)).1 (fun cy => wAt_3 cy _ (hXS8 _ _ (hXS3 _ _ hl1A)).2) rfl 1 (by decide) (List.mem_of_getElem? (i := 20) rfl) rfl rfl dX5_solve_20 ?_
    refine wk_aload_n C dX5_solve_23 rfl rfl ?_
    refine wk_get C (v := .int (gEntry_itemCount S8 l1A)) huX5_solve_3 (hXS8 _ _ (hXS3 _ _ hl1A)).1 (fun cy => wAt_3 cy _ (hXS8 _ _ (hXS3 _ _ hl1A)).2) rfl 6 (by decide) (List.mem_of_getElem? (i := 1) rfl) rfl rfl dX5_solve_24 ?_
    refine wk_iadd C dX5_solve_27 rfl ?_
    obtain ⟨x33, ex33, h⟩ := wkLt_some h
    refine wk_topi ex33 ?_
    refine wk_istore_n C (lv' := [some (.ref l0A), some (.ref l1A), some (.int x1), some (.int x33), none, none]) dX5_solve_28 rfl (by decide) rfl ?_
    refine wk_aload_n C dX5_solve_29 rfl rfl ?_
    refine wk_iload_n C dX5_solve_30 rfl rfl ?_
    refine wk_callV C hR (As := [.int x33]) (cnt := 1) (tX5_minimise (l := l) hWS8 (hXS8 _ _ (hXS3 _ _ hl0A)) h) rfl (wkGoodV (List.mem_of_getElem? (i := 21) rfl) (List.mem_of_getElem? (i := 22) rfl) (List.mem_of_getElem? (i := 23) rfl) (List.mem_of_getElem? (i := 5) rfl) hbX5_solve_X5_minimise gdX5_minimise) (Nat.le_trans (by decide : 3 + 1 ≤ 5) hd) (by decide) (hXS8 _ _ (hXS3 _ _ hl0A)).1 (fun cy => wAt_5 cy _ (hXS8 _ _ (hXS3 _ _ hl0A)).2) rfl ⟨by decide, by decide, by decide +kernel⟩ rfl rfl (Nat.le_of_ble_eq_true rfl) (Nat.zero_le _) (Nat.zero_le _) dX5_solve_31 (fun v' S35 hp => ?_)
    obtain ⟨v34, rfl, h, hWS35, hXS35⟩ := hp
    refine wk_aload_n C dX5_solve_34 rfl rfl ?_
    refine wk_get C (v := .int (gEntry_boundNow S35 l1A)) huX5_solve_3 (hXS35 _ _ (hXS8 _ _ (hXS3 _ _ hl1A))).1 (fun cy => wAt_3 cy _ (hXS35 _ _ (hXS8 _ _ (hXS3 _ _ hl1A))).2) rfl 8 (by decide) (List.mem_of_getElem? (i := 24) rfl) rfl rfl dX5_solve_35 ?_
    refine wk_i2l C dX5_solve_38 rfl ?_
    refine wk_aload_n C dX5_solve_39 rfl rfl ?_
    refine wk_get C (v := .long (gInequalities_lower S35 l0A)) huX5_solve_5 (hXS35 _ _ (hXS8 _ _ (hXS3 _ _ hl0A))).1 (fun cy => wAt_5 cy _ (hXS35 _ _ (hXS8 _ _ (hXS3 _ _ hl0A))).2) rfl 6 (by decide) (List.mem_of_getElem? (i := 25) rfl) rfl rfl dX5_solve_40 ?_
    refine wk_lmul C dX5_solve_43 rfl ?_
    refine wk_aload_n C dX5_solve_44 rfl rfl ?_
    refine wk_iload_n C dX5_solve_45 rfl rfl ?_
    refine wk_callV C hR (As := [.int x33]) (cnt := 1) (tX5_valueOf (l := l) hWS35 (hXS35 _ _ (hXS8 _ _ (hXS3 _ _ hl0A))) h) rfl (wkGoodV (List.mem_of_getElem? (i := 26) rfl) (List.mem_of_getElem? (i := 27) rfl) (List.mem_of_getElem? (i := 28) rfl) (List.mem_of_getElem? (i := 5) rfl) hbX5_solve_X5_valueOf gdX5_valueOf) (Nat.le_trans (by decide : 1 + 1 ≤ 5) hd) (by decide) (hXS35 _ _ (hXS8 _ _ (hXS3 _ _ hl0A))).1 (fun cy => wAt_5 cy _ (hXS35 _ _ (hXS8 _ _ (hXS3 _ _ hl0A))).2) rfl ⟨by decide, by decide, by decide +kernel⟩ rfl rfl (Nat.le_of_ble_eq_true rfl) (Nat.zero_le _) (Nat.zero_le _) dX5_solve_46 (fun v' S40 hp => ?_)
    obtain ⟨v39, rfl, h, hWS40, hXS40⟩ := hp
    refine wk_lsub C dX5_solve_49 rfl ?_
    obtain ⟨x44, ex44, h⟩ := wkLt_some h
    refine wk_topl ex44 ?_
    refine wk_lstore C (lv' := [some (.ref l0A), some (.ref l1A), some (.int x1), some (.int x33), some (.long x44), none]) dX5_solve_50 (by decide) rfl ?_
    refine wk_aload_n C dX5_solve_52 rfl rfl ?_
    refine wk_iconst C (v := 1) dX5_solve_53 (by decide) ?_
    refine wk_lload C dX5_solve_54 rfl ?_
    refine wk_lconst C (v := 1) dX5_solve_56 (by decide) ?_
    refine wk_aload_n C dX5_solve_57 rfl rfl ?_
    refine wk_get C (v := .long (gInequalities_lower S40 l0A)) huX5_solve_5 (hXS40 _ _ (hXS35 _ _ (hXS8 _ _ (hXS3 _ _ hl0A)))).1 (fun cy => wAt_5 cy _ (hXS40 _ _ (hXS35 _ _ (hXS8 _ _ (hXS3 _ _ hl0A)))).2) rfl 6 (by decide) (List.mem_of_getElem? (i := 25) rfl) rfl rfl dX5_solve_58 ?_
    refine wk_mmax_long C hR (List.mem_of_getElem? (i := 29) rfl) (List.mem_of_getElem? (i := 30) rfl) (List.mem_of_getElem? (i := 31) rfl) (List.mem_of_getElem? (i := 32) rfl) (Nat.le_trans (by decide) hd) (Nat.zero_le _) (Nat.zero_le _) (Nat.le_of_ble_eq_true rfl) rfl dX5_solve_61 ?_
    refine wk_callW C hR (As := [.long x44, .long (if (gInequalities_lower S40 l0A) < (1 : Int64) then (1 : Int64) else (gInequalities_lower S40 l0A))]) (cnt := 2) (tJ9_floorDiv_f86c9 (l := l) hWS40  h) rfl (wkGoodW (List.mem_of_getElem? (i := 33) rfl) (List.mem_of_getElem? (i := 34) rfl) (List.mem_of_getElem? (i := 35) rfl) hbX5_solve_J9_floorDiv_f86c9 gdJ9_floorDiv_f86c9) (Nat.le_trans (by decide : 0 + 1 ≤ 5) hd) (by decide) ⟨by decide, by decide, by decide +kernel⟩ rfl rfl (Nat.le_of_ble_eq_true rfl) (Nat.zero_le _) (Nat.zero_le _) dX5_solve_64 (fun v' S46 hp => ?_)
    obtain ⟨v45, rfl, h, hWS46, hXS46⟩ := hp
    refine wk_l2i C dX5_solve_67 rfl ?_
    refine wk_callV C hR (As := [.int (1 : Int32), .int (Int64.toInt32 v45)]) (cnt := 2) (tX3_tell (l := l) hWS46 (hXS46 _ _ (hXS40 _ _ (hXS35 _ _ (hXS8 _ _ (hXS3 _ _ hl1A))))) h) rfl (wkGoodV (List.mem_of_getElem? (i := 16) rfl) (List.mem_of_getElem? (i := 17) rfl) (List.mem_of_getElem? (i := 18) rfl) (List.mem_of_getElem? (i := 19) rfl) hbX5_solve_X3_tell gdX3_tell) (Nat.le_trans (by decide : 0 + 1 ≤ 5) hd) (by decide) (hXS46 _ _ (hXS40 _ _ (hXS35 _ _ (hXS8 _ _ (hXS3 _ _ hl1A))))).1 (fun cy => wAt_3 cy _ (hXS46 _ _ (hXS40 _ _ (hXS35 _ _ (hXS8 _ _ (hXS3 _ _ hl1A))))).2) rfl ⟨by decide, by decide, by decide +kernel⟩ rfl rfl (Nat.le_of_ble_eq_true rfl) (Nat.zero_le _) (Nat.zero_le _) dX5_solve_68 (fun v' S51 hp => ?_)
    obtain ⟨v50, rfl, h, hWS51, hXS51⟩ := hp
    refine wk_aload_n C dX5_solve_71 rfl rfl ?_
    refine wk_aload_n C dX5_solve_72 rfl rfl ?_
    refine wk_callV C hR (As := [.ref l1A]) (cnt := 1) (tX5_loadUnknowns (l := l) hWS51 (hXS51 _ _ (hXS46 _ _ (hXS40 _ _ (hXS35 _ _ (hXS8 _ _ (hXS3 _ _ hl0A)))))) (hXS51 _ _ (hXS46 _ _ (hXS40 _ _ (hXS35 _ _ (hXS8 _ _ (hXS3 _ _ hl1A)))))) h) rfl (wkGoodV (List.mem_of_getElem? (i := 2) rfl) (List.mem_of_getElem? (i := 3) rfl) (List.mem_of_getElem? (i := 4) rfl) (List.mem_of_getElem? (i := 5) rfl) hbX5_solve_X5_loadUnknowns gdX5_loadUnknowns) (Nat.le_trans (by decide : 2 + 1 ≤ 5) hd) (by decide) (hXS51 _ _ (hXS46 _ _ (hXS40 _ _ (hXS35 _ _ (hXS8 _ _ (hXS3 _ _ hl0A)))))).1 (fun cy => wAt_5 cy _ (hXS51 _ _ (hXS46 _ _ (hXS40 _ _ (hXS35 _ _ (hXS8 _ _ (hXS3 _ _ hl0A)))))).2) rfl ⟨by decide, by decide, by decide +kernel⟩ rfl rfl (Nat.le_of_ble_eq_true rfl) (Nat.zero_le _) (Nat.zero_le _) dX5_solve_73 (fun v' S56 hp => ?_)
    obtain ⟨v55, rfl, h, hWS56, hXS56⟩ := hp
    refine wk_aload_n C dX5_solve_76 rfl rfl ?_
    refine wk_callV C hR (As := []) (cnt := 0) (tX5_isFulfilled (l := l) hWS56 (hXS56 _ _ (hXS51 _ _ (hXS46 _ _ (hXS40 _ _ (hXS35 _ _ (hXS8 _ _ (hXS3 _ _ hl0A))))))) h) rfl (wkGoodV (List.mem_of_getElem? (i := 6) rfl) (List.mem_of_getElem? (i := 7) rfl) (List.mem_of_getElem? (i := 8) rfl) (List.mem_of_getElem? (i := 5) rfl) hbX5_solve_X5_isFulfilled gdX5_isFulfilled) (Nat.le_trans (by decide : 3 + 1 ≤ 5) hd) (by decide) (hXS56 _ _ (hXS51 _ _ (hXS46 _ _ (hXS40 _ _ (hXS35 _ _ (hXS8 _ _ (hXS3 _ _ hl0A))))))).1 (fun cy => wAt_5 cy _ (hXS56 _ _ (hXS51 _ _ (hXS46 _ _ (hXS40 _ _ (hXS35 _ _ (hXS8 _ _ (hXS3 _ _ hl0A))))))).2) rfl ⟨by decide, by decide, by decide +kernel⟩ rfl rfl (Nat.le_of_ble_eq_true rfl) (Nat.zero_le _) (Nat.zero_le _) dX5_solve_77 (fun v' S61 hp => ?_)
    obtain ⟨v60, rfl, h, hWS61, hXS61⟩ := hp
    refine wk_pop C dX5_solve_80 rfl ?_
    refine wk_aload_n C dX5_solve_81 rfl rfl ?_
    refine wk_aload_n C dX5_solve_82 rfl rfl ?_
    refine wk_get C (v := .int (gEntry_size S61 l1A)) huX5_solve_3 (hXS61 _ _ (hXS56 _ _ (hXS51 _ _ (hXS46 _ _ (hXS40 _ _ (hXS35 _ _ (hXS8 _ _ (hXS3 _ _ hl1A)))))))).1 (fun cy => wAt_3 cy _ (hXS61 _ _ (hXS56 _ _ (hXS51 _ _ (hXS46 _ _ (hXS40 _ _ (hXS35 _ _ (hXS8 _ _ (hXS3 _ _ hl1A)))))))).2) rfl 1 (by decide) (List.mem_of_getElem? (i := 20) rfl) rfl rfl dX5_solve_83 ?_
    refine wk_aload_n C dX5_solve_86 rfl rfl ?_
    refine wk_get C huX5_solve_3 (hXS61 _ _ (hXS56 _ _ (hXS51 _ _ (hXS46 _ _ (hXS40 _ _ (hXS35 _ _ (hXS8 _ _ (hXS3 _ _ hl1A)))))))).1 (fun cy => wAt_3 cy _ (hXS61 _ _ (hXS56 _ _ (hXS51 _ _ (hXS46 _ _ (hXS40 _ _ (hXS35 _ _ (hXS8 _ _ (hXS3 _ _ hl1A)))))))).2) rfl 13 (by decide) (List.mem_of_getElem? (i := 12) rfl) rfl (congrArg some (congrArg va_rf (wf_Entry_row hWS61 (hXS61 _ _ (hXS56 _ _ (hXS51 _ _ (hXS46 _ _ (hXS40 _ _ (hXS35 _ _ (hXS8 _ _ (hXS3 _ _ hl1A))))))))).1)) dX5_solve_87 ?_
    obtain ⟨k68, n69, hk68, hn69, h⟩ := h
    refine wk_callV C hR (As := [.int (gEntry_size S61 l1A), .ref (wkAd (gEntry_row S61 l1A))]) (cnt := 2) (tX5_writeLeast (l := l) hWS61 (hXS61 _ _ (hXS56 _ _ (hXS51 _ _ (hXS46 _ _ (hXS40 _ _ (hXS35 _ _ (hXS8 _ _ (hXS3 _ _ hl0A)))))))) (wf_Entry_row hWS61 (hXS61 _ _ (hXS56 _ _ (hXS51 _ _ (hXS46 _ _ (hXS40 _ _ (hXS35 _ _ (hXS8 _ _ (hXS3 _ _ hl1A))))))))).2 h) rfl (wkGoodV (List.mem_of_getElem? (i := 13) rfl) (List.mem_of_getElem? (i := 14) rfl) (List.mem_of_getElem? (i := 15) rfl) (List.mem_of_getElem? (i := 5) rfl) hbX5_solve_X5_writeLeast gdX5_writeLeast) (Nat.le_trans (by decide : 4 + 1 ≤ 5) hd) (by decide) (hXS61 _ _ (hXS56 _ _ (hXS51 _ _ (hXS46 _ _ (hXS40 _ _ (hXS35 _ _ (hXS8 _ _ (hXS3 _ _ hl0A)))))))).1 (fun cy => wAt_5 cy _ (hXS61 _ _ (hXS56 _ _ (hXS51 _ _ (hXS46 _ _ (hXS40 _ _ (hXS35 _ _ (hXS8 _ _ (hXS3 _ _ hl0A)))))))).2) rfl ⟨by decide, by decide, by decide +kernel⟩ rfl rfl (Nat.le_of_ble_eq_true rfl) hk68 hn69 dX5_solve_90 (fun v' S66 hp => ?_)
    obtain ⟨v65, rfl, h, hWS66, hXS66⟩ := hp
    refine wk_goto C (tgt := 121) dX5_solve_93 (by decide) ?_
    exact E _ _ _ _ _ hk68 hn69 dX5_solve_121 ⟨(), rfl, h, hWS66, (wkExt.tr (wkExt.tr (wkExt.tr (wkExt.tr (wkExt.tr (wkExt.tr (wkExt.tr (wkExt.tr (wkExt.tr hE hXS3) hXS8) hXS35) hXS40) hXS46) hXS51) hXS56) hXS61) hXS66)⟩
