def wvX7_writeNodes : List Cond := .code yX7_writeNodes cX7_writeNodes 4 none :: (([.methodLink RX7 96 yX7_letterOf, .instanceMethod yX7_letterOf, .selects RX7 yX7_letterOf yX7_letterOf, .initialized RX7, .methodLink RX7 82 yX9_add, .instanceMethod yX9_add, .selects RX9 yX9_add yX9_add, .initialized RX9] : List Cond) ++ (([]) ++ (wvX7_letterOf ++ (wvX9_add))))
theorem hbX7_writeNodes_X7_letterOf : ∀ w ∈ wvX7_letterOf, w ∈ wvX7_writeNodes := fun w h => List.mem_cons_of_mem _ (List.mem_append_right _ (List.mem_append_right _ (List.mem_append_left _ h)))
theorem hbX7_writeNodes_X9_add : ∀ w ∈ wvX9_add, w ∈ wvX7_writeNodes := fun w h => List.mem_cons_of_mem _ (List.mem_append_right _ (List.mem_append_right _ (List.mem_append_right _ h)))
theorem gdX7_writeNodes : ∀ w ∈ wvX7_writeNodes, wkGd w := wkGdC rfl (wkGdA (wkGdL (by decide +kernel)) (wkGdA (fun _ h => absurd h List.not_mem_nil) (wkGdA gdX7_letterOf gdX9_add)))
def rX7_writeNodes_b0 (F : Nat) (k n : Nat) (rec : Nat → Nat → Nat → Nat → Int32 → Nat → Int32 → wPS → (Unit → wPS → Prop) → Prop) (c s : Nat) (l0A : Nat) (l1I : Int32) (l2A : Nat) (l3I : Int32) (S : wPS) (Φ : (Unit → wPS → Prop)) : Prop :=
  if l1I ≤ l3I then (Φ () S) else (rX7_letterOf F l0A l1I l3I S fun v2 S3 => if v2 = (97 : Int32) then (∃ k12 n13 : Nat, c + k12 ≤ k ∧ s + n13 ≤ n ∧ rX9_add F k12 n13 l2A l3I S3 fun v9 S10 => wkLt (l3I + (1 : Int32)) fun x14 => rec 0 (c + k12) (s + n13) l0A l1I l2A x14 S10 Φ) else (wkLt (l3I + (1 : Int32)) fun x8 => rec 0 c s l0A l1I l2A x8 S3 Φ))
def rX7_writeNodes_go (F : Nat) (k n : Nat) : Nat → Nat → Nat → Nat → Nat → Int32 → Nat → Int32 → wPS → (Unit → wPS → Prop) → Prop
  | 0, _, _, _, _, _, _, _, _, _ => False
  | k' + 1, lab, c, s, l0A, l1I, l2A, l3I, S, Φ => if lab = 0 then rX7_writeNodes_b0 F k n (rX7_writeNodes_go F k n k') c s l0A l1I l2A l3I S Φ else False
def rX7_writeNodes_s (F : Nat) (k n : Nat) (rec : Nat → Nat → Nat → Nat → Int32 → Nat → Int32 → wPS → (Unit → wPS → Prop) → Prop) (l0A : Nat) (l1I : Int32) (l2A : Nat) (S : wPS) (Φ : (Unit → wPS → Prop)) : Prop :=
  rec 0 0 0 l0A l1I l2A (0 : Int32) S Φ
def rX7_writeNodes (F : Nat) (k n : Nat) (l0A : Nat) (l1I : Int32) (l2A : Nat) (S : wPS) (Φ : (Unit → wPS → Prop)) : Prop := rX7_writeNodes_s F k n (rX7_writeNodes_go F k n F) l0A l1I l2A S Φ
set_option maxHeartbeats 4000000 in
set_option maxRecDepth 100000 in
theorem tX7_writeNodes_go {k n : Nat} {l : Launch} {X : wkX} {d F : Nat} {S0 : wPS} {Φ : (Unit → wPS → Prop)} (C : wkC X cX7_writeNodes RX7 4 wvX7_writeNodes) (hR : wkRm X d k n) (hd : 3 ≤ d) (E : wkEnd l X cX7_writeNodes 4 none k n (fun v' S'' => ∃ v : Unit, v' = none ∧ Φ v S'' ∧ wkWF S'' ∧ wkExt S0 S'')) : ∀ k' : Nat, (∀ (c s : Nat), c ≤ k → s ≤ n → ∀ (l0A : Nat) (l1I : Int32) (l2A : Nat) (l3I : Int32) (S : wPS), wkWF S → wkExt S0 S → wkIs S l0A 7 → wkIs S l2A 9 → rX7_writeNodes_go F k n k' 0 c s l0A l1I l2A l3I S Φ → wkGo l X 4 c s 2 S [some (.ref l0A), some (.int l1I), some (.ref l2A), some (.int l3I)] []) := by
  intro k'
  induction k' with
  | zero => exact fun c s hc hs l0A l1I l2A l3I S hW hE hl0A hl2A h => h.elim
  | succ k' ih =>
    · intro c s hc hs l0A l1I l2A l3I S hW hE hl0A hl2A h
      have h : rX7_writeNodes_b0 F k n (rX7_writeNodes_go F k n k') c s l0A l1I l2A l3I S Φ := by
        rw [rX7_writeNodes_go, if_pos (rfl : (0 : Nat) = 0)] at h
        exact h
      unfold rX7_writeNodes_b0 at h
      refine wk_iload_n C dX7_writeNodes_2 rfl rfl ?_
      refine wk_iload_n C dX7_writeNodes_3 rfl rfl ?_
      refine wk_icmp_ge C (tgt := 29) dX7_writeNodes_4 (by decide) (fun c1 => ?_) (fun c1 => ?_)
      · rw [if_pos c1] at h
        exact E _ _ _ _ _ hc hs dX7_writeNodes_29 ⟨(), rfl, h, hW, hE⟩
      · rw [if_neg c1] at h
        refine wk_aload_n C dX7_writeNodes_7 rfl rfl ?_
        refine wk_iload_n C dX7_writeNodes_8 rfl rfl ?_
        refine wk_iload_n C dX7_writeNodes_9 rfl rfl ?_
        refine wk_callV C hR (As := [.int l1I, .int l3I]) (cnt := 2) (tX7_letterOf (l := l) hW hl0A h) rfl (wkGoodV (List.mem_of_getElem? (i := 1) rfl) (List.mem_of_getElem? (i := 2) rfl) (List.mem_of_getElem? (i := 3) rfl) (List.mem_of_getElem? (i := 4) rfl) hbX7_writeNodes_X7_letterOf gdX7_letterOf) (Nat.le_trans (by decide : 1 + 1 ≤ 3) hd) (by decide) hl0A.1 (fun cy => wAt_7 cy _ hl0A.2) rfl ⟨by decide, by decide, by decide +kernel⟩ rfl rfl (Nat.le_of_ble_eq_true rfl) hc hs dX7_writeNodes_10 (fun v' S3 hp => ?_)
        obtain ⟨v2, rfl, h, hWS3, hXS3⟩ := hp
        refine wk_bipush C (v := 97) dX7_writeNodes_13 (by decide) ?_
        refine wk_icmp_ne C (tgt := 23) dX7_writeNodes_15 (by decide) (fun c7 => ?_) (fun c7 => ?_)
        · rw [if_neg c7] at h
          obtain ⟨x8, ex8, h⟩ := wkLt_some h
          refine wk_iinc C (lv' := [some (.ref l0A), some (.int l1I), some (.ref l2A), some (.int x8)]) dX7_writeNodes_23 rfl (by rw [ex8]; rfl) (by decide) rfl ?_
          refine wk_goto C (tgt := 2) dX7_writeNodes_26 (by decide) ?_
          exact wk_forget (lv' := [some (.ref l0A), some (.int l1I), some (.ref l2A), some (.int x8)]) (wkLs.le ⟨rfl, rfl, rfl, rfl, trivial⟩) (ih _ _ hc hs _ _ _ _ _ hWS3 (wkExt.tr hE hXS3) (hXS3 _ _ hl0A) (hXS3 _ _ hl2A) h)
        · rw [if_pos c7] at h
          refine wk_aload_n C dX7_writeNodes_18 rfl rfl ?_
          refine wk_iload_n C dX7_writeNodes_19 rfl rfl ?_
          obtain ⟨k12, n13, hk12, hn13, h⟩ := h
          refine wk_callV C hR (As := [.int l3I]) (cnt := 1) (tX9_add (l := l) hWS3 (hXS3 _ _ hl2A) h) rfl (wkGoodV (List.mem_of_getElem? (i := 5) rfl) (List.mem_of_getElem? (i := 6) rfl) (List.mem_of_getElem? (i := 7) rfl) (List.mem_of_getElem? (i := 8) rfl) hbX7_writeNodes_X9_add gdX9_add) (Nat.le_trans (by decide : 2 + 1 ≤ 3) hd) (by decide) (hXS3 _ _ hl2A).1 (fun cy => wAt_9 cy _ (hXS3 _ _ hl2A).2) rfl ⟨by decide, by decide, by decide +kernel⟩ rfl rfl (Nat.le_of_ble_eq_true rfl) hk12 hn13 dX7_writeNodes_20 (fun v' S10 hp => ?_)
          obtain ⟨v9, rfl, h, hWS10, hXS10⟩ := hp
          obtain ⟨x14, ex14, h⟩ := wkLt_some h
          refine wk_iinc C (lv' := [some (.ref l0A), some (.int l1I), some (.ref l2A), some (.int x14)]) dX7_writeNodes_23 rfl (by rw [ex14]; rfl) (by decide) rfl ?_
          refine wk_goto C (tgt := 2) dX7_writeNodes_26 (by decide) ?_
          exact wk_forget (lv' := [some (.ref l0A), some (.int l1I), some (.ref l2A), some (.int x14)]) (wkLs.le ⟨rfl, rfl, rfl, rfl, trivial⟩) (ih _ _ hk12 hn13 _ _ _ _ _ hWS10 (wkExt.tr (wkExt.tr hE hXS3) hXS10) (hXS10 _ _ (hXS3 _ _ hl0A)) (hXS10 _ _ (hXS3 _ _ hl2A)) h)
set_option maxHeartbeats 4000000 in
set_option maxRecDepth 100000 in
theorem tX7_writeNodes {l : Launch} {g : wkG} {F : Nat} {k n : Nat}  {S : wPS} {l0A : Nat} {l1I : Int32} {l2A : Nat} {Φ : (Unit → wPS → Prop)} (hW : wkWF S) (hl0A : wkIs S l0A 7) (hl2A : wkIs S l2A 9) (h : rX7_writeNodes F k n l0A l1I l2A S Φ) : wkMet l g yX7_writeNodes wvX7_writeNodes 3 k n [.ref l0A, .int l1I, .ref l2A] S (fun v' S'' => ∃ v : Unit, v' = none ∧ Φ v S'' ∧ wkWF S'' ∧ wkExt S S'') := by
  refine wkMet_of (ret := none) (by decide) rfl (Nat.le_of_ble_eq_true rfl) (fun X hg C hR E => ?_)
  subst hg
  have hE : wkExt S S := wkExt.rf
  have hd : 3 ≤ 3 := Nat.le_refl _
  show wkGo l X 4 0 0 0 S [some (.ref l0A), some (.int l1I), some (.ref l2A), none] []
  have ih := tX7_writeNodes_go (F := F) C hR hd E F
  have h : rX7_writeNodes_s F k n (rX7_writeNodes_go F k n F) l0A l1I l2A S Φ := h
  unfold rX7_writeNodes_s at h
  refine wk_iconst C (v := 0) dX7_writeNodes_0 (by decide) ?_
  refine wk_istore_n C (lv' := [some (.ref l0A), some (.int l1I), some (.ref l2A), some (.int (0 : Int32))]) dX7_writeNodes_1 rfl (by decide) rfl ?_
  exact wk_forget (lv' := [some (.ref l0A), some (.int l1I), some (.ref l2A), some (.int (0 : Int32))]) (wkLs.le ⟨rfl, rfl, rfl, rfl, trivial⟩) (ih _ _ (Nat.zero_le _) (Nat.zero_le _) _ _ _ _ _ hW hE hl0A hl2A h)
def wvX7_leadsOn : List Cond := .code yX7_leadsOn cX7_leadsOn 8 (some .boolean) :: (([.fieldLink RX7 138 "Witnessworks$Networks" "nodeCount" "I", .fieldLink RX7 150 "Witnessworks$Networks" "reached" "I", .static yX11_has, .initialized RX11, .fieldLink RX7 147 "Witnessworks$Networks" "itemCount" "I", .methodLink RX7 156 yX7_reachBy, .instanceMethod yX7_reachBy, .selects RX7 yX7_reachBy yX7_reachBy, .initialized RX7, .methodLink RX7 159 yX7_goBack, .instanceMethod yX7_goBack, .selects RX7 yX7_goBack yX7_goBack] : List Cond) ++ ((wsX70) ++ (wvX11_has ++ (wvX7_reachBy ++ (wvX7_goBack)))))
theorem huX7_leadsOn_7 : ∀ w ∈ u_ws RX7 TX7 11, w ∈ wvX7_leadsOn := fun w h => List.mem_cons_of_mem _ (List.mem_append_right _ (List.mem_append_left _ h))
theorem hbX7_leadsOn_X11_has : ∀ w ∈ wvX11_has, w ∈ wvX7_leadsOn := fun w h => List.mem_cons_of_mem _ (List.mem_append_right _ (List.mem_append_right _ (List.mem_append_left _ h)))
theorem hbX7_leadsOn_X7_reachBy : ∀ w ∈ wvX7_reachBy, w ∈ wvX7_leadsOn := fun w h => List.mem_cons_of_mem _ (List.mem_append_right _ (List.mem_append_right _ (List.mem_append_right _ (List.mem_append_left _ h))))
theorem hbX7_leadsOn_X7_goBack : ∀ w ∈ wvX7_goBack, w ∈ wvX7_leadsOn := fun w h => List.mem_cons_of_mem _ (List.mem_append_right _ (List.mem_append_right _ (List.mem_append_right _ (List.mem_append_right _ h))))
theorem gdX7_leadsOn : ∀ w ∈ wvX7_leadsOn, wkGd w := wkGdC rfl (wkGdA (wkGdL (by decide +kernel)) (wkGdA gdX7 (wkGdA gdX11_has (wkGdA gdX7_reachBy gdX7_goBack))))
def rX7_leadsOn_b0 (F : Nat) (rec : Nat → Nat → Int32 → Int32 → Int32 → Int32 → Int32 → Int32 → Int32 → wPS → (Int32 → wPS → Prop) → Prop) (l0A : Nat) (l1I : Int32) (l2I : Int32) (l3I : Int32) (l4I : Int32) (l5I : Int32) (S : wPS) (Φ : (Int32 → wPS → Prop)) : Prop :=
  if (gNetworks_nodeCount S l0A) ≤ l5I then (rX11_has F (gNetworks_reached S l0A) l2I S fun v2 S3 => if v2 = 0 then (Φ (0 : Int32) S3) else (rec 2 l0A l1I 0 0 0 l2I (0 : Int32) 0 S3 Φ)) else (if l4I = 0 then (rX11_has F (gNetworks_reached S l0A) l2I S fun v9 S10 => if v9 = 0 then (Φ (0 : Int32) S10) else (rec 2 l0A l1I 0 0 0 l2I (0 : Int32) 0 S10 Φ)) else (wkLt ((gNetworks_reached S l0A)) fun x15 => rec 1 l0A l1I l2I l3I 0 l5I x15 l3I S Φ))
def rX7_leadsOn_b1 (F : Nat) (rec : Nat → Nat → Int32 → Int32 → Int32 → Int32 → Int32 → Int32 → Int32 → wPS → (Int32 → wPS → Prop) → Prop) (l0A : Nat) (l1I : Int32) (l2I : Int32) (l3I : Int32) (l5I : Int32) (l6I : Int32) (l7I : Int32) (S : wPS) (Φ : (Int32 → wPS → Prop)) : Prop :=
  if (gNetworks_itemCount S l0A) ≤ l7I then (if l6I = (gNetworks_reached S l0A) then (wkLt (l5I + (1 : Int32)) fun x18 => rec 0 l0A l1I l2I l3I (0 : Int32) x18 0 0 S Φ) else (wkLt (l5I + (1 : Int32)) fun x19 => rec 0 l0A l1I l2I l3I (1 : Int32) x19 0 0 S Φ)) else (rX7_reachBy F l0A l7I S fun v20 S21 => wkLt (l7I + (1 : Int32)) fun x25 => rec 1 l0A l1I l2I l3I 0 l5I l6I x25 S21 Φ)
def rX7_leadsOn_b2 (F : Nat) (rec : Nat → Nat → Int32 → Int32 → Int32 → Int32 → Int32 → Int32 → Int32 → wPS → (Int32 → wPS → Prop) → Prop) (l0A : Nat) (l1I : Int32) (l5I : Int32) (l6I : Int32) (S : wPS) (Φ : (Int32 → wPS → Prop)) : Prop :=
  if (gNetworks_nodeCount S l0A) ≤ l6I then (Φ (1 : Int32) S) else (if l5I = l1I then (Φ (1 : Int32) S) else (rX7_goBack F l0A l5I S fun v28 S29 => wkLt (l6I + (1 : Int32)) fun x33 => rec 2 l0A l1I 0 0 0 v28 x33 0 S29 Φ))
def rX7_leadsOn_go (F : Nat) : Nat → Nat → Nat → Int32 → Int32 → Int32 → Int32 → Int32 → Int32 → Int32 → wPS → (Int32 → wPS → Prop) → Prop
  | 0, _, _, _, _, _, _, _, _, _, _, _ => False
  | k' + 1, lab, l0A, l1I, l2I, l3I, l4I, l5I, l6I, l7I, S, Φ => if lab = 0 then rX7_leadsOn_b0 F (rX7_leadsOn_go F k') l0A l1I l2I l3I l4I l5I S Φ else if lab = 1 then rX7_leadsOn_b1 F (rX7_leadsOn_go F k') l0A l1I l2I l3I l5I l6I l7I S Φ else if lab = 2 then rX7_leadsOn_b2 F (rX7_leadsOn_go F k') l0A l1I l5I l6I S Φ else False
def rX7_leadsOn_s (F : Nat) (rec : Nat → Nat → Int32 → Int32 → Int32 → Int32 → Int32 → Int32 → Int32 → wPS → (Int32 → wPS → Prop) → Prop) (l0A : Nat) (l1I : Int32) (l2I : Int32) (l3I : Int32) (S : wPS) (Φ : (Int32 → wPS → Prop)) : Prop :=
  wkLt (wu_Networks_reached S l0A ((1 : Int32) <<< (l1I &&& 31))) fun S34 => rec 0 l0A l1I l2I l3I (1 : Int32) (0 : Int32) 0 0 S34 Φ
def rX7_leadsOn (F : Nat) (l0A : Nat) (l1I : Int32) (l2I : Int32) (l3I : Int32) (S : wPS) (Φ : (Int32 → wPS → Prop)) : Prop := rX7_leadsOn_s F (rX7_leadsOn_go F F) l0A l1I l2I l3I S Φ
set_option maxHeartbeats 4000000 in
set_option maxRecDepth 100000 in
theorem tX7_leadsOn_go {l : Launch} {X : wkX} {d F : Nat} {S0 : wPS} {Φ : (Int32 → wPS → Prop)} (C : wkC X cX7_leadsOn RX7 8 wvX7_leadsOn) (hR : wkRm X d 0 0) (hd : 2 ≤ d) (E : wkEnd l X cX7_leadsOn 8 (some .boolean) 0 0 (fun v' S'' => ∃ v : Int32, v' = some (.int v) ∧ Φ v S'' ∧ wkWF S'' ∧ wkExt S0 S'')) : ∀ k' : Nat, (∀ (l0A : Nat) (l1I : Int32) (l2I : Int32) (l3I : Int32) (l4I : Int32) (l5I : Int32) (S : wPS), wkWF S → wkExt S0 S → wkIs S l0A 7 → rX7_leadsOn_go F k' 0 l0A l1I l2I l3I l4I l5I 0 0 S Φ → wkGo l X 8 0 0 13 S [some (.ref l0A), some (.int l1I), some (.int l2I), some (.int l3I), some (.int l4I), some (.int l5I), none, none] []) ∧ (∀ (l0A : Nat) (l1I : Int32) (l2I : Int32) (l3I : Int32) (l5I : Int32) (l6I : Int32) (l7I : Int32) (S : wPS), wkWF S → wkExt S0 S → wkIs S l0A 7 → rX7_leadsOn_go F k' 1 l0A l1I l2I l3I 0 l5I l6I l7I S Φ → wkGo l X 8 0 0 36 S [some (.ref l0A), some (.int l1I), some (.int l2I), some (.int l3I), none, some (.int l5I), some (.int l6I), some (.int l7I)] []) ∧ (∀ (l0A : Nat) (l1I : Int32) (l5I : Int32) (l6I : Int32) (S : wPS), wkWF S → wkExt S0 S → wkIs S l0A 7 → rX7_leadsOn_go F k' 2 l0A l1I 0 0 0 l5I l6I 0 S Φ → wkGo l X 8 0 0 98 S [some (.ref l0A), some (.int l1I), none, none, none, some (.int l5I), some (.int l6I), none] []) := by
  intro k'
  induction k' with
  | zero => exact ⟨fun l0A l1I l2I l3I l4I l5I S hW hE hl0A h => h.elim, fun l0A l1I l2I l3I l5I l6I l7I S hW hE hl0A h => h.elim, fun l0A l1I l5I l6I S hW hE hl0A h => h.elim⟩
  | succ k' ih =>
    refine ⟨?_, ?_, ?_⟩
    · intro l0A l1I l2I l3I l4I l5I S hW hE hl0A h
      have h : rX7_leadsOn_b0 F (rX7_leadsOn_go F k') l0A l1I l2I l3I l4I l5I S Φ := by
        rw [rX7_leadsOn_go, if_pos (rfl : (0 : Nat) = 0)] at h
        exact h
      unfold rX7_leadsOn_b0 at h
      refine wk_iload C dX7_leadsOn_13 rfl ?_
      refine wk_aload_n C dX7_leadsOn_15 rfl rfl ?_
      refine wk_get C (v := .int (gNetworks_nodeCount S l0A)) huX7_leadsOn_7 hl0A.1 (fun cy => wAt_7 cy _ hl0A.2) rfl 8 (by decide) (List.mem_of_getElem? (i := 1) rfl) rfl rfl dX7_leadsOn_16 ?_
      refine wk_icmp_ge C (tgt := 79) dX7_leadsOn_19 (by decide) (fun c1 => ?_) (fun c1 => ?_)
      · rw [if_pos c1] at h
        refine wk_aload_n C dX7_leadsOn_79 rfl rfl ?_
        refine wk_get C (v := .int (gNetworks_reached S l0A)) huX7_leadsOn_7 hl0A.1 (fun cy => wAt_7 cy _ hl0A.2) rfl 10 (by decide) (List.mem_of_getElem? (i := 2) rfl) rfl rfl dX7_leadsOn_80 ?_
        refine wk_iload_n C dX7_leadsOn_83 rfl rfl ?_
        refine wk_callN C hR (y := yX11_has) (host := "Witnessworks") (As := [.int (gNetworks_reached S l0A), .int l2I]) (cnt := 2) (tX11_has (l := l) hW  h) rfl (fun w h => ⟨hbX7_leadsOn_X11_has w h, gdX11_has w h⟩) (by decide +kernel) (List.mem_of_getElem? (i := 3) rfl) (List.mem_of_getElem? (i := 4) rfl) (Nat.le_trans (by decide : 0 + 1 ≤ 2) hd) (by decide) ⟨by decide, by decide, by decide +kernel⟩ rfl rfl (Nat.le_of_ble_eq_true rfl) (Nat.le_refl 0) (Nat.le_refl 0) dX7_leadsOn_84 (fun v' S3 hp => ?_)
        obtain ⟨v2, rfl, h, hWS3, hXS3⟩ := hp
        refine wk_if_ne C (tgt := 92) dX7_leadsOn_87 (by decide) (fun c7 => ?_) (fun c7 => ?_)
        · rw [if_neg c7] at h
          refine wk_iload_n C dX7_leadsOn_92 rfl rfl ?_
          refine wk_istore C (lv' := [some (.ref l0A), some (.int l1I), some (.int l2I), some (.int l3I), some (.int l4I), some (.int l2I), none, none]) dX7_leadsOn_93 (by decide) rfl ?_
          refine wk_iconst C (v := 0) dX7_leadsOn_95 (by decide) ?_
          refine wk_istore C (lv' := [some (.ref l0A), some (.int l1I), some (.int l2I), some (.int l3I), some (.int l4I), some (.int l2I), some (.int (0 : Int32)), none]) dX7_leadsOn_96 (by decide) rfl ?_
          exact wk_forget (lv' := [some (.ref l0A), some (.int l1I), none, none, none, some (.int l2I), some (.int (0 : Int32)), none]) (wkLs.le ⟨rfl, rfl, rfl, rfl, trivial⟩) (ih.2.2 _ _ _ _ _ hWS3 (wkExt.tr hE hXS3) (hXS3 _ _ hl0A) h)
        · rw [if_pos c7] at h
          refine wk_iconst C (v := 0) dX7_leadsOn_90 (by decide) ?_
          exact E _ _ _ _ _ _ (Nat.le_refl 0) (Nat.le_refl 0) dX7_leadsOn_91 rfl ⟨(0 : Int32), rfl, h, hWS3, (wkExt.tr hE hXS3)⟩
      · rw [if_neg c1] at h
        refine wk_iload C dX7_leadsOn_22 rfl ?_
        refine wk_if_eq C (tgt := 79) dX7_leadsOn_24 (by decide) (fun c8 => ?_) (fun c8 => ?_)
        · rw [if_pos c8] at h
          refine wk_aload_n C dX7_leadsOn_79 rfl rfl ?_
          refine wk_get C (v := .int (gNetworks_reached S l0A)) huX7_leadsOn_7 hl0A.1 (fun cy => wAt_7 cy _ hl0A.2) rfl 10 (by decide) (List.mem_of_getElem? (i := 2) rfl) rfl rfl dX7_leadsOn_80 ?_
          refine wk_iload_n C dX7_leadsOn_83 rfl rfl ?_
          refine wk_callN C hR (y := yX11_has) (host := "Witnessworks") (As := [.int (gNetworks_reached S l0A), .int l2I]) (cnt := 2) (tX11_has (l := l) hW  h) rfl (fun w h => ⟨hbX7_leadsOn_X11_has w h, gdX11_has w h⟩) (by decide +kernel) (List.mem_of_getElem? (i := 3) rfl) (List.mem_of_getElem? (i := 4) rfl) (Nat.le_trans (by decide : 0 + 1 ≤ 2) hd) (by decide) ⟨by decide, by decide, by decide +kernel⟩ rfl rfl (Nat.le_of_ble_eq_true rfl) (Nat.le_refl 0) (Nat.le_refl 0) dX7_leadsOn_84 (fun v' S10 hp => ?_)
          obtain ⟨v9, rfl, h, hWS10, hXS10⟩ := hp
          refine wk_if_ne C (tgt := 92) dX7_leadsOn_87 (by decide) (fun c14 => ?_) (fun c14 => ?_)
          · rw [if_neg c14] at h
            refine wk_iload_n C dX7_leadsOn_92 rfl rfl ?_
            refine wk_istore C (lv' := [some (.ref l0A), some (.int l1I), some (.int l2I), some (.int l3I), some (.int l4I), some (.int l2I), none, none]) dX7_leadsOn_93 (by decide) rfl ?_
            refine wk_iconst C (v := 0) dX7_leadsOn_95 (by decide) ?_
            refine wk_istore C (lv' := [some (.ref l0A), some (.int l1I), some (.int l2I), some (.int l3I), some (.int l4I), some (.int l2I), some (.int (0 : Int32)), none]) dX7_leadsOn_96 (by decide) rfl ?_
            exact wk_forget (lv' := [some (.ref l0A), some (.int l1I), none, none, none, some (.int l2I), some (.int (0 : Int32)), none]) (wkLs.le ⟨rfl, rfl, rfl, rfl, trivial⟩) (ih.2.2 _ _ _ _ _ hWS10 (wkExt.tr hE hXS10) (hXS10 _ _ hl0A) h)
          · rw [if_pos c14] at h
            refine wk_iconst C (v := 0) dX7_leadsOn_90 (by decide) ?_
            exact E _ _ _ _ _ _ (Nat.le_refl 0) (Nat.le_refl 0) dX7_leadsOn_91 rfl ⟨(0 : Int32), rfl, h, hWS10, (wkExt.tr hE hXS10)⟩
        · rw [if_neg c8] at h
          refine wk_aload_n C dX7_leadsOn_27 rfl rfl ?_
          refine wk_get C (v := .int (gNetworks_reached S l0A)) huX7_leadsOn_7 hl0A.1 (fun cy => wAt_7 cy _ hl0A.2) rfl 10 (by decide) (List.mem_of_getElem? (i := 2) rfl) rfl rfl dX7_leadsOn_28 ?_
          obtain ⟨x15, ex15, h⟩ := wkLt_some h
          refine wk_topi ex15 ?_
          refine wk_istore C (lv' := [some (.ref l0A), some (.int l1I), some (.int l2I), some (.int l3I), some (.int l4I), some (.int l5I), some (.int x15), none]) dX7_leadsOn_31 (by decide) rfl ?_
          refine wk_iload_n C dX7_leadsOn_33 rfl rfl ?_
          refine wk_istore C (lv' := [some (.ref l0A), some (.int l1I), some (.int l2I), some (.int l3I), some (.int l4I), some (.int l5I), some (.int x15), some (.int l3I)]) dX7_leadsOn_34 (by decide) rfl ?_
          exact wk_forget (lv' := [some (.ref l0A), some (.int l1I), some (.int l2I), some (.int l3I), none, some (.int l5I), some (.int x15), some (.int l3I)]) (wkLs.le ⟨rfl, rfl, rfl, rfl, rfl, rfl, rfl, trivial⟩) (ih.2.1 _ _ _ _ _ _ _ _ hW hE hl0A h)
    · intro l0A l1I l2I l3I l5I l6I l7I S hW hE hl0A h
      have h : rX7_leadsOn_b1 F (rX7_leadsOn_go F k') l0A l1I l2I l3I l5I l6I l7I S Φ := by
        rw [rX7_leadsOn_go, if_neg (show ¬ (1 : Nat) = 0 by decide), if_pos (rfl : (1 : Nat) = 1)] at h
        exact h
      unfold rX7_leadsOn_b1 at h
      refine wk_iload C dX7_leadsOn_36 rfl ?_
      refine wk_aload_n C dX7_leadsOn_38 rfl rfl ?_
      refine wk_get C (v := .int (gNetworks_itemCount S l0A)) huX7_leadsOn_7 hl0A.1 (fun cy => wAt_7 cy _ hl0A.2) rfl 9 (by decide) (List.mem_of_getElem? (i := 5) rfl) rfl rfl dX7_leadsOn_39 ?_
      refine wk_icmp_ge C (tgt := 57) dX7_leadsOn_42 (by decide) (fun c16 => ?_) (fun c16 => ?_)
      · rw [if_pos c16] at h
        refine wk_iload C dX7_leadsOn_57 rfl ?_
        refine wk_aload_n C dX7_leadsOn_59 rfl rfl ?_
        refine wk_get C (v := .int (gNetworks_reached S l0A)) huX7_leadsOn_7 hl0A.1 (fun cy => wAt_7 cy _ hl0A.2) rfl 10 (by decide) (List.mem_of_getElem? (i := 2) rfl) rfl rfl dX7_leadsOn_60 ?_
        refine wk_icmp_eq C (tgt := 70) dX7_leadsOn_63 (by decide) (fun c17 => ?_) (fun c17 => ?_)
        · rw [if_pos c17] at h
          refine wk_iconst C (v := 0) dX7_leadsOn_70 (by decide) ?_
          refine wk_istore C (lv' := [some (.ref l0A), some (.int l1I), some (.int l2I), some (.int l3I), some (.int (0 : Int32)), some (.int l5I), some (.int l6I), some (.int l7I)]) dX7_leadsOn_71 (by decide) rfl ?_
          obtain ⟨x18, ex18, h⟩ := wkLt_some h
          refine wk_iinc C (lv' := [some (.ref l0A), some (.int l1I), some (.int l2I), some (.int l3I), some (.int (0 : Int32)), some (.int x18), some (.int l6I), some (.int l7I)]) dX7_leadsOn_73 rfl (by rw [ex18]; rfl) (by decide) rfl ?_
          refine wk_goto C (tgt := 13) dX7_leadsOn_76 (by decide) ?_
          exact wk_forget (lv' := [some (.ref l0A), some (.int l1I), some (.int l2I), some (.int l3I), some (.int (0 : Int32)), some (.int x18), none, none]) (wkLs.le ⟨rfl, rfl, rfl, rfl, rfl, rfl, trivial⟩) (ih.1 _ _ _ _ _ _ _ hW hE hl0A h)
        · rw [if_neg c17] at h
          refine wk_iconst C (v := 1) dX7_leadsOn_66 (by decide) ?_
          refine wk_goto C (tgt := 71) dX7_leadsOn_67 (by decide) ?_
          refine wk_istore C (lv' := [some (.ref l0A), some (.int l1I), some (.int l2I), some (.int l3I), some (.int (1 : Int32)), some (.int l5I), some (.int l6I), some (.int l7I)]) dX7_leadsOn_71 (by decide) rfl ?_
          obtain ⟨x19, ex19, h⟩ := wkLt_some h
          refine wk_iinc C (lv' := [some (.ref l0A), some (.int l1I), some (.int l2I), some (.int l3I), some (.int (1 : Int32)), some (.int x19), some (.int l6I), some (.int l7I)]) dX7_leadsOn_73 rfl (by rw [ex19]; rfl) (by decide) rfl ?_
          refine wk_goto C (tgt := 13) dX7_leadsOn_76 (by decide) ?_
          exact wk_forget (lv' := [some (.ref l0A), some (.int l1I), some (.int l2I), some (.int l3I), some (.int (1 : Int32)), some (.int x19), none, none]) (wkLs.le ⟨rfl, rfl, rfl, rfl, rfl, rfl, trivial⟩) (ih.1 _ _ _ _ _ _ _ hW hE hl0A h)
      · rw [if_neg c16] at h
        refine wk_aload_n C dX7_leadsOn_45 rfl rfl ?_
        refine wk_iload C dX7_leadsOn_46 rfl ?_
        refine wk_callV C hR (As := [.int l7I]) (cnt := 1) (tX7_reachBy (l := l) hW hl0A h) rfl (wkGoodV (List.mem_of_getElem? (i := 6) rfl) (List.mem_of_getElem? (i := 7) rfl) (List.mem_of_getElem? (i := 8) rfl) (List.mem_of_getElem? (i := 9) rfl) hbX7_leadsOn_X7_reachBy gdX7_reachBy) (Nat.le_trans (by decide : 1 + 1 ≤ 2) hd) (by decide) hl0A.1 (fun cy => wAt_7 cy _ hl0A.2) rfl ⟨by decide, by decide, by decide +kernel⟩ rfl rfl (Nat.le_of_ble_eq_true rfl) (Nat.le_refl 0) (Nat.le_refl 0) dX7_leadsOn_48 (fun v' S21 hp => ?_)
        obtain ⟨v20, rfl, h, hWS21, hXS21⟩ := hp
        obtain ⟨x25, ex25, h⟩ := wkLt_some h
        refine wk_iinc C (lv' := [some (.ref l0A), some (.int l1I), some (.int l2I), some (.int l3I), none, some (.int l5I), some (.int l6I), some (.int x25)]) dX7_leadsOn_51 rfl (by rw [ex25]; rfl) (by decide) rfl ?_
        refine wk_goto C (tgt := 36) dX7_leadsOn_54 (by decide) ?_
        exact wk_forget (lv' := [some (.ref l0A), some (.int l1I), some (.int l2I), some (.int l3I), none, some (.int l5I), some (.int l6I), some (.int x25)]) (wkLs.le ⟨rfl, rfl, rfl, rfl, rfl, rfl, rfl, trivial⟩) (ih.2.1 _ _ _ _ _ _ _ _ hWS21 (wkExt.tr hE hXS21) (hXS21 _ _ hl0A) h)
    · intro l0A l1I l5I l6I S hW hE hl0A h
      have h : rX7_leadsOn_b2 F (rX7_leadsOn_go F k') l0A l1I l5I l6I S Φ := by
        rw [rX7_leadsOn_go, if_neg (show ¬ (2 : Nat) = 0 by decide), if_neg (show ¬ (2 : Nat) = 1 by decide), if_pos (rfl : (2 : Nat) = 2)] at h
        exact h
      unfold rX7_leadsOn_b2 at h
      refine wk_iload C dX7_leadsOn_98 rfl ?_
      refine wk_aload_n C dX7_leadsOn_100 rfl rfl ?_
      refine wk_get C (v := .int (gNetworks_nodeCount S l0A)) huX7_leadsOn_7 hl0A.1 (fun cy => wAt_7 cy _ hl0A.2) rfl 8 (by decide) (List.mem_of_getElem? (i := 1) rfl) rfl rfl dX7_leadsOn_101 ?_
      refine wk_icmp_ge C (tgt := 127) dX7_leadsOn_104 (by decide) (fun c26 => ?_) (fun c26 => ?_)
      · rw [if_pos c26] at h
        refine wk_iconst C (v := 1) dX7_leadsOn_127 (by decide) ?_
        exact E _ _ _ _ _ _ (Nat.le_refl 0) (Nat.le_refl 0) dX7_leadsOn_128 rfl ⟨(1 : Int32), rfl, h, hW, hE⟩
      · rw [if_neg c26] at h
        refine wk_iload C dX7_leadsOn_107 rfl ?_
        refine wk_iload_n C dX7_leadsOn_109 rfl rfl ?_
        refine wk_icmp_eq C (tgt := 127) dX7_leadsOn_110 (by decide) (fun c27 => ?_) (fun c27 => ?_)
        · rw [if_pos c27] at h
          refine wk_iconst C (v := 1) dX7_leadsOn_127 (by decide) ?_
          exact E _ _ _ _ _ _ (Nat.le_refl 0) (Nat.le_refl 0) dX7_leadsOn_128 rfl ⟨(1 : Int32), rfl, h, hW, hE⟩
        · rw [if_neg c27] at h
          refine wk_aload_n C dX7_leadsOn_113 rfl rfl ?_
          refine wk_iload C dX7_leadsOn_114 rfl ?_
          refine wk_callV C hR (As := [.int l5I]) (cnt := 1) (tX7_goBack (l := l) hW hl0A h) rfl (wkGoodV (List.mem_of_getElem? (i := 10) rfl) (List.mem_of_getElem? (i := 11) rfl) (List.mem_of_getElem? (i := 12) rfl) (List.mem_of_getElem? (i := 9) rfl) hbX7_leadsOn_X7_goBack gdX7_goBack) (Nat.le_trans (by decide : 0 + 1 ≤ 2) hd) (by decide) hl0A.1 (fun cy => wAt_7 cy _ hl0A.2) rfl ⟨by decide, by decide, by decide +kernel⟩ rfl rfl (Nat.le_of_ble_eq_true rfl) (Nat.le_refl 0) (Nat.le_refl 0) dX7_leadsOn_116 (fun v' S29 hp => ?_)
          obtain ⟨v28, rfl, h, hWS29, hXS29⟩ := hp
          refine wk_istore C (lv' := [some (.ref l0A), some (.int l1I), none, none, none, some (.int v28), some (.int l6I), none]) dX7_leadsOn_119 (by decide) rfl ?_
          obtain ⟨x33, ex33, h⟩ := wkLt_some h
          refine wk_iinc C (lv' := [some (.ref l0A), some (.int l1I), none, none, none, some (.int v28), some (.int x33), none]) dX7_leadsOn_121 rfl (by rw [ex33]; rfl) (by decide) rfl ?_
          refine wk_goto C (tgt := 98) dX7_leadsOn_124 (by decide) ?_
          exact wk_forget (lv' := [some (.ref l0A), some (.int l1I), none, none, none, some (.int v28), some (.int x33), none]) (wkLs.le ⟨rfl, rfl, rfl, rfl, trivial⟩) (ih.2.2 _ _ _ _ _ hWS29 (wkExt.tr hE hXS29) (hXS29 _ _ hl0A) h)
set_option maxHeartbeats 4000000 in
set_option maxRecDepth 100000 in
theorem tX7_leadsOn {l : Launch} {g : wkG} {F : Nat}  {S : wPS} {l0A : Nat} {l1I : Int32} {l2I : Int32} {l3I : Int32} {Φ : (Int32 → wPS → Prop)} (hW : wkWF S) (hl0A : wkIs S l0A 7) (h : rX7_leadsOn F l0A l1I l2I l3I S Φ) : wkMet l g yX7_leadsOn wvX7_leadsOn 2 0 0 [.ref l0A, .int l1I, .int l2I, .int l3I] S (fun v' S'' => ∃ v : Int32, v' = some (.int v) ∧ Φ v S'' ∧ wkWF S'' ∧ wkExt S S'') := by
  refine wkMet_of (ret := (some .boolean)) (by decide) rfl (Nat.le_of_ble_eq_true rfl) (fun X hg C hR E => ?_)
  subst hg
  have hE : wkExt S S := wkExt.rf
  have hd : 2 ≤ 2 := Nat.le_refl _
  show wkGo l X 8 0 0 0 S [some (.ref l0A), some (.int l1I), some (.int l2I), some (.int l3I), none, none, none, none] []
  have ih := tX7_leadsOn_go (F := F) C hR hd E F
  have h : rX7_leadsOn_s F (rX7_leadsOn_go F F) l0A l1I l2I l3I S Φ := h
  unfold rX7_leadsOn_s at h
  refine wk_aload_n C dX7_leadsOn_0 rfl rfl ?_
  refine wk_iconst C (v := 1) dX7_leadsOn_1 (by decide) ?_
  refine wk_iload_n C dX7_leadsOn_2 rfl rfl ?_
  refine wk_ishl C dX7_leadsOn_3 rfl ?_
  obtain ⟨S34, eS34, h⟩ := wkLt_some h
  refine wk_put C (S' := S34) huX7_leadsOn_7 hl0A.1 (fun cy => wAt_7 cy _ hl0A.2) rfl 10 (by decide) (List.mem_of_getElem? (i := 2) rfl) rfl tyX7_ok nmX7 rfl (ty := .int) rfl rfl rfl (by show 10 < 11; decide) (fun cy b => by rw [eS34]; exact wSt_7_10 cy _ hl0A.2 _ b) (by rw [eS34]) dX7_leadsOn_4 ?_
  have hWS34 : wkWF S34 := by rw [eS34]; exact hW
  have hXS34 : wkExt S S34 := by rw [eS34]; exact wkExt.rf
  refine wk_iconst C (v := 1) dX7_leadsOn_7 (by decide) ?_
  refine wk_istore C (lv' := [some (.ref l0A), some (.int l1I), some (.int l2I), some (.int l3I), some (.int (1 : Int32)), none, none, none]) dX7_leadsOn_8 (by decide) rfl ?_
  refine wk_iconst C (v := 0) dX7_leadsOn_10 (by decide) ?_
  refine wk_istore C (lv' := [some (.ref l0A), some (.int l1I), some (.int l2I), some (.int l3I), some (.int (1 : Int32)), some (.int (0 : Int32)), none, none]) dX7_leadsOn_11 (by decide) rfl ?_
  exact wk_forget (lv' := [some (.ref l0A), some (.int l1I), some (.int l2I), some (.int l3I), some (.int (1 : Int32)), some (.int (0 : Int32)), none, none]) (wkLs.le ⟨rfl, rfl, rfl, rfl, rfl, rfl, trivial⟩) (ih.1 _ _ _ _ _ _ _ hWS34 (wkExt.tr hE hXS34) (hXS34 _ _ hl0A) h)
def wvX7_lowerAll : List Cond := .code yX7_lowerAll cX7_lowerAll 4 none :: (([.fieldLink RX7 147 "Witnessworks$Networks" "itemCount" "I", .fieldLink RX7 27 "Witnessworks$Networks" "flow" "[I", .fieldLink RX7 18 "Witnessworks$Networks" "from" "[I", .fieldLink RX7 21 "Witnessworks$Networks" "to" "[I", .methodLink RX7 141 yX7_leadsOn, .instanceMethod yX7_leadsOn, .selects RX7 yX7_leadsOn yX7_leadsOn, .initialized RX7] : List Cond) ++ ((wsX70) ++ (wvX7_leadsOn)))
theorem huX7_lowerAll_7 : ∀ w ∈ u_ws RX7 TX7 11, w ∈ wvX7_lowerAll := fun w h => List.mem_cons_of_mem _ (List.mem_append_right _ (List.mem_append_left _ h))
theorem hbX7_lowerAll_X7_leadsOn : ∀ w ∈ wvX7_leadsOn, w ∈ wvX7_lowerAll := fun w h => List.mem_cons_of_mem _ (List.mem_append_right _ (List.mem_append_right _ h))
theorem gdX7_lowerAll : ∀ w ∈ wvX7_lowerAll, wkGd w := wkGdC rfl (wkGdA (wkGdL (by decide +kernel)) (wkGdA gdX7 gdX7_leadsOn))
def rX7_lowerAll_b0 (F : Nat) (rec : Nat → Nat → Int32 → Int32 → Int32 → wPS → (Unit → wPS → Prop) → Prop) (l0A : Nat) (l1I : Int32) (S : wPS) (Φ : (Unit → wPS → Prop)) : Prop :=
  if (gNetworks_itemCount S l0A) ≤ l1I then (Φ () S) else (¬ (l1I < 0 ∨ S.len (wkAd (gNetworks_flow S l0A)) ≤ (l1I).toNatClampNeg) ∧ wkLt ((S.rI (wkAd (gNetworks_flow S l0A)) (l1I).toNatClampNeg)) fun x3 => rec 1 l0A l1I x3 (0 : Int32) S Φ)
def rX7_lowerAll_b1 (F : Nat) (rec : Nat → Nat → Int32 → Int32 → Int32 → wPS → (Unit → wPS → Prop) → Prop) (l0A : Nat) (l1I : Int32) (l2I : Int32) (l3I : Int32) (S : wPS) (Φ : (Unit → wPS → Prop)) : Prop :=
  if l2I ≤ l3I then (wkLt (l1I + (1 : Int32)) fun x5 => rec 0 l0A x5 0 0 S Φ) else (¬ (l1I < 0 ∨ S.len (wkAd (gNetworks_from S l0A)) ≤ (l1I).toNatClampNeg) ∧ ¬ (l1I < 0 ∨ S.len (wkAd (gNetworks_to S l0A)) ≤ (l1I).toNatClampNeg) ∧ rX7_leadsOn F l0A (S.rI (wkAd (gNetworks_from S l0A)) (l1I).toNatClampNeg) (S.rI (wkAd (gNetworks_to S l0A)) (l1I).toNatClampNeg) (l1I + (1 : Int32)) S fun v8 S9 => if v8 = 0 then (wkLt (l1I + (1 : Int32)) fun x14 => rec 0 l0A x14 0 0 S9 Φ) else (¬ (l1I < 0 ∨ S9.len (wkAd (gNetworks_flow S9 l0A)) ≤ (l1I).toNatClampNeg) ∧ ¬ (l1I < 0 ∨ S9.len (wkAd (gNetworks_flow S9 l0A)) ≤ (l1I).toNatClampNeg) ∧ wkLt (wuI S9 (wkAd (gNetworks_flow S9 l0A)) l1I ((S9.rI (wkAd (gNetworks_flow S9 l0A)) (l1I).toNatClampNeg) - (1 : Int32))) fun S17 => wkLt (l3I + (1 : Int32)) fun x18 => rec 1 l0A l1I l2I x18 S17 Φ))
def rX7_lowerAll_go (F : Nat) : Nat → Nat → Nat → Int32 → Int32 → Int32 → wPS → (Unit → wPS → Prop) → Prop
  | 0, _, _, _, _, _, _, _ => False
  | k' + 1, lab, l0A, l1I, l2I, l3I, S, Φ => if lab = 0 then rX7_lowerAll_b0 F (rX7_lowerAll_go F k') l0A l1I S Φ else if lab = 1 then rX7_lowerAll_b1 F (rX7_lowerAll_go F k') l0A l1I l2I l3I S Φ else False
def rX7_lowerAll_s (F : Nat) (rec : Nat → Nat → Int32 → Int32 → Int32 → wPS → (Unit → wPS → Prop) → Prop) (l0A : Nat) (S : wPS) (Φ : (Unit → wPS → Prop)) : Prop :=
  rec 0 l0A (0 : Int32) 0 0 S Φ
def rX7_lowerAll (F : Nat) (l0A : Nat) (S : wPS) (Φ : (Unit → wPS → Prop)) : Prop := rX7_lowerAll_s F (rX7_lowerAll_go F F) l0A S Φ
set_option maxHeartbeats 4000000 in
set_option maxRecDepth 100000 in
theorem tX7_lowerAll_go {l : Launch} {X : wkX} {d F : Nat} {S0 : wPS} {Φ : (Unit → wPS → Prop)} (C : wkC X cX7_lowerAll RX7 4 wvX7_lowerAll) (hR : wkRm X d 0 0) (hd : 3 ≤ d) (E : wkEnd l X cX7_lowerAll 4 none 0 0 (fun v' S'' => ∃ v : Unit, v' = none ∧ Φ v S'' ∧ wkWF S'' ∧ wkExt S0 S'')) : ∀ k' : Nat, (∀ (l0A : Nat) (l1I : Int32) (S : wPS), wkWF S → wkExt S0 S → wkIs S l0A 7 → rX7_lowerAll_go F k' 0 l0A l1I 0 0 S Φ → wkGo l X 4 0 0 2 S [some (.ref l0A), some (.int l1I), none, none] []) ∧ (∀ (l0A : Nat) (l1I : Int32) (l2I : Int32) (l3I : Int32) (S : wPS), wkWF S → wkExt S0 S → wkIs S l0A 7 → rX7_lowerAll_go F k' 1 l0A l1I l2I l3I S Φ → wkGo l X 4 0 0 19 S [some (.ref l0A), some (.int l1I), some (.int l2I), some (.int l3I)] []) := by
  intro k'
  induction k' with
  | zero => exact ⟨fun l0A l1I S hW hE hl0A h => h.elim, fun l0A l1I l2I l3I S hW hE hl0A h => h.elim⟩
  | succ k' ih =>
    refine ⟨?_, ?_⟩
    · intro l0A l1I S hW hE hl0A h
      have h : rX7_lowerAll_b0 F (rX7_lowerAll_go F k') l0A l1I S Φ := by
        rw [rX7_lowerAll_go, if_pos (rfl : (0 : Nat) = 0)] at h
        exact h
      unfold rX7_lowerAll_b0 at h
      refine wk_iload_n C dX7_lowerAll_2 rfl rfl ?_
      refine wk_aload_n C dX7_lowerAll_3 rfl rfl ?_
      refine wk_get C (v := .int (gNetworks_itemCount S l0A)) huX7_lowerAll_7 hl0A.1 (fun cy => wAt_7 cy _ hl0A.2) rfl 9 (by decide) (List.mem_of_getElem? (i := 1) rfl) rfl rfl dX7_lowerAll_4 ?_
      refine wk_icmp_ge C (tgt := 68) dX7_lowerAll_7 (by decide) (fun c1 => ?_) (fun c1 => ?_)
      · rw [if_pos c1] at h
        exact E _ _ _ _ _ (Nat.le_refl 0) (Nat.le_refl 0) dX7_lowerAll_68 ⟨(), rfl, h, hW, hE⟩
      · rw [if_neg c1] at h
        refine wk_aload_n C dX7_lowerAll_10 rfl rfl ?_
        refine wk_get C huX7_lowerAll_7 hl0A.1 (fun cy => wAt_7 cy _ hl0A.2) rfl 5 (by decide) (List.mem_of_getElem? (i := 2) rfl) rfl (congrArg some (congrArg va_rf (wf_Networks_flow hW hl0A).1)) dX7_lowerAll_11 ?_
        refine wk_iload_n C dX7_lowerAll_14 rfl rfl ?_
        obtain ⟨i2, h⟩ := h
        refine wk_iald C (wf_Networks_flow hW hl0A).2.1 (wf_Networks_flow hW hl0A).2.2 i2 rfl dX7_lowerAll_15 ?_
        obtain ⟨x3, ex3, h⟩ := wkLt_some h
        refine wk_topi ex3 ?_
        refine wk_istore_n C (lv' := [some (.ref l0A), some (.int l1I), some (.int x3), none]) dX7_lowerAll_16 rfl (by decide) rfl ?_
        refine wk_iconst C (v := 0) dX7_lowerAll_17 (by decide) ?_
        refine wk_istore_n C (lv' := [some (.ref l0A), some (.int l1I), some (.int x3), some (.int (0 : Int32))]) dX7_lowerAll_18 rfl (by decide) rfl ?_
        exact wk_forget (lv' := [some (.ref l0A), some (.int l1I), some (.int x3), some (.int (0 : Int32))]) (wkLs.le ⟨rfl, rfl, rfl, rfl, trivial⟩) (ih.2 _ _ _ _ _ hW hE hl0A h)
    · intro l0A l1I l2I l3I S hW hE hl0A h
      have h : rX7_lowerAll_b1 F (rX7_lowerAll_go F k') l0A l1I l2I l3I S Φ := by
        rw [rX7_lowerAll_go, if_neg (show ¬ (1 : Nat) = 0 by decide), if_pos (rfl : (1 : Nat) = 1)] at h
        exact h
      unfold rX7_lowerAll_b1 at h
      refine wk_iload_n C dX7_lowerAll_19 rfl rfl ?_
      refine wk_iload_n C dX7_lowerAll_20 rfl rfl ?_
      refine wk_icmp_ge C (tgt := 62) dX7_lowerAll_21 (by decide) (fun c4 => ?_) (fun c4 => ?_)
      · rw [if_pos c4] at h
        obtain ⟨x5, ex5, h⟩ := wkLt_some h
        refine wk_iinc C (lv' := [some (.ref l0A), some (.int x5), some (.int l2I), some (.int l3I)]) dX7_lowerAll_62 rfl (by rw [ex5]; rfl) (by decide) rfl ?_
        refine wk_goto C (tgt := 2) dX7_lowerAll_65 (by decide) ?_
        exact wk_forget (lv' := [some (.ref l0A), some (.int x5), none, none]) (wkLs.le ⟨rfl, rfl, trivial⟩) (ih.1 _ _ _ hW hE hl0A h)
      · rw [if_neg c4] at h
        refine wk_aload_n C dX7_lowerAll_24 rfl rfl ?_
        refine wk_aload_n C dX7_lowerAll_25 rfl rfl ?_
        refine wk_get C huX7_lowerAll_7 hl0A.1 (fun cy => wAt_7 cy _ hl0A.2) rfl 2 (by decide) (List.mem_of_getElem? (i := 3) rfl) rfl (congrArg some (congrArg va_rf (wf_Networks_from hW hl0A).1)) dX7_lowerAll_26 ?_
        refine wk_iload_n C dX7_lowerAll_29 rfl rfl ?_
        obtain ⟨i6, h⟩ := h
        refine wk_iald C (wf_Networks_from hW hl0A).2.1 (wf_Networks_from hW hl0A).2.2 i6 rfl dX7_lowerAll_30 ?_
        refine wk_aload_n C dX7_lowerAll_31 rfl rfl ?_
        refine wk_get C huX7_lowerAll_7 hl0A.1 (fun cy => wAt_7 cy _ hl0A.2) rfl 3 (by decide) (List.mem_of_getElem? (i := 4) rfl) rfl (congrArg some (congrArg va_rf (wf_Networks_to hW hl0A).1)) dX7_lowerAll_32 ?_
        refine wk_iload_n C dX7_lowerAll_35 rfl rfl ?_
        obtain ⟨i7, h⟩ := h
        refine wk_iald C (wf_Networks_to hW hl0A).2.1 (wf_Networks_to hW hl0A).2.2 i7 rfl dX7_lowerAll_36 ?_
        refine wk_iload_n C dX7_lowerAll_37 rfl rfl ?_
        refine wk_iconst C (v := 1) dX7_lowerAll_38 (by decide) ?_
        refine wk_iadd C dX7_lowerAll_39 rfl ?_
        refine wk_callV C hR (As := [.int (S.rI (wkAd (gNetworks_from S l0A)) (l1I).toNatClampNeg), .int (S.rI (wkAd (gNetworks_to S l0A)) (l1I).toNatClampNeg), .int (l1I + (1 : Int32))]) (cnt := 3) (tX7_leadsOn (l := l) hW hl0A h) rfl (wkGoodV (List.mem_of_getElem? (i := 5) rfl) (List.mem_of_getElem? (i := 6) rfl) (List.mem_of_getElem? (i := 7) rfl) (List.mem_of_getElem? (i := 8) rfl) hbX7_lowerAll_X7_leadsOn gdX7_leadsOn) (Nat.le_trans (by decide : 2 + 1 ≤ 3) hd) (by decide) hl0A.1 (fun cy => wAt_7 cy _ hl0A.2) rfl ⟨by decide, by decide, by decide +kernel⟩ rfl rfl (Nat.le_of_ble_eq_true rfl) (Nat.le_refl 0) (Nat.le_refl 0) dX7_lowerAll_40 (fun v' S9 hp => ?_)
        obtain ⟨v8, rfl, h, hWS9, hXS9⟩ := hp
        refine wk_if_eq C (tgt := 62) dX7_lowerAll_43 (by decide) (fun c13 => ?_) (fun c13 => ?_)
        · rw [if_pos c13] at h
          obtain ⟨x14, ex14, h⟩ := wkLt_some h
          refine wk_iinc C (lv' := [some (.ref l0A), some (.int x14), some (.int l2I), some (.int l3I)]) dX7_lowerAll_62 rfl (by rw [ex14]; rfl) (by decide) rfl ?_
          refine wk_goto C (tgt := 2) dX7_lowerAll_65 (by decide) ?_
          exact wk_forget (lv' := [some (.ref l0A), some (.int x14), none, none]) (wkLs.le ⟨rfl, rfl, trivial⟩) (ih.1 _ _ _ hWS9 (wkExt.tr hE hXS9) (hXS9 _ _ hl0A) h)
        · rw [if_neg c13] at h
          refine wk_aload_n C dX7_lowerAll_46 rfl rfl ?_
          refine wk_get C huX7_lowerAll_7 (hXS9 _ _ hl0A).1 (fun cy => wAt_7 cy _ (hXS9 _ _ hl0A).2) rfl 5 (by decide) (List.mem_of_getElem? (i := 2) rfl) rfl (congrArg some (congrArg va_rf (wf_Networks_flow hWS9 (hXS9 _ _ hl0A)).1)) dX7_lowerAll_47 ?_
          refine wk_iload_n C dX7_lowerAll_50 rfl rfl ?_
          refine wk_dup2 C dX7_lowerAll_51 rfl rfl ?_
          obtain ⟨i15, h⟩ := h
          refine wk_iald C (wf_Networks_flow hWS9 (hXS9 _ _ hl0A)).2.1 (wf_Networks_flow hWS9 (hXS9 _ _ hl0A)).2.2 i15 rfl dX7_lowerAll_52 ?_
          refine wk_iconst C (v := 1) dX7_lowerAll_53 (by decide) ?_
          refine wk_isub C dX7_lowerAll_54 rfl ?_
          obtain ⟨i16, h⟩ := h
          obtain ⟨S17, eS17, h⟩ := wkLt_some h
          refine wk_iast C (wf_Networks_flow hWS9 (hXS9 _ _ hl0A)).2.1 (wf_Networks_flow hWS9 (hXS9 _ _ hl0A)).2.2 i16 eS17.symm dX7_lowerAll_55 ?_
          have hWS17 : wkWF S17 := by rw [eS17]; exact hWS9
          have hXS17 : wkExt S9 S17 := by rw [eS17]; exact wkExt.rf
          obtain ⟨x18, ex18, h⟩ := wkLt_some h
          refine wk_iinc C (lv' := [some (.ref l0A), some (.int l1I), some (.int l2I), some (.int x18)]) dX7_lowerAll_56 rfl (by rw [ex18]; rfl) (by decide) rfl ?_
          refine wk_goto C (tgt := 19) dX7_lowerAll_59 (by decide) ?_
          exact wk_forget (lv' := [some (.ref l0A), some (.int l1I), some (.int l2I), some (.int x18)]) (wkLs.le ⟨rfl, rfl, rfl, rfl, trivial⟩) (ih.2 _ _ _ _ _ hWS17 (wkExt.tr (wkExt.tr hE hXS9) hXS17) (hXS17 _ _ (hXS9 _ _ hl0A)) h)
set_option maxHeartbeats 4000000 in
set_option maxRecDepth 100000 in
theorem tX7_lowerAll {l : Launch} {g : wkG} {F : Nat}  {S : wPS} {l0A : Nat} {Φ : (Unit → wPS → Prop)} (hW : wkWF S) (hl0A : wkIs S l0A 7) (h : rX7_lowerAll F l0A S Φ) : wkMet l g yX7_lowerAll wvX7_lowerAll 3 0 0 [.ref l0A] S (fun v' S'' => ∃ v : Unit, v' = none ∧ Φ v S'' ∧ wkWF S'' ∧ wkExt S S'') := by
  refine wkMet_of (ret := none) (by decide) rfl (Nat.le_of_ble_eq_true rfl) (fun X hg C hR E => ?_)
  subst hg
  have hE : wkExt S S := wkExt.rf
  have hd : 3 ≤ 3 := Nat.le_refl _
  show wkGo l X 4 0 0 0 S [some (.ref l0A), none, none, none] []
  have ih := tX7_lowerAll_go (F := F) C hR hd E F
  have h : rX7_lowerAll_s F (rX7_lowerAll_go F F) l0A S Φ := h
  unfold rX7_lowerAll_s at h
  refine wk_iconst C (v := 0) dX7_lowerAll_0 (by decide) ?_
  refine wk_istore_n C (lv' := [some (.ref l0A), some (.int (0 : Int32)), none, none]) dX7_lowerAll_1 rfl (by decide) rfl ?_
  exact wk_forget (lv' := [some (.ref l0A), some (.int (0 : Int32)), none, none]) (wkLs.le ⟨rfl, rfl, trivial⟩) (ih.1 _ _ _ hW hE hl0A h)
