def wvL_isSound : List Cond := .code yL_isSound cL_isSound 1 (some .long) :: (([.methodLink RL 141 yX11_isSound, .instanceMethod yX11_isSound, .selects RX11 yX11_isSound yX11_isSound, .initialized RX11] : List Cond) ++ (([]) ++ (wvX11_isSound)))
theorem hbL_isSound_X11_isSound : ∀ w ∈ wvX11_isSound, w ∈ wvL_isSound := fun w h => List.mem_cons_of_mem _ (List.mem_append_right _ (List.mem_append_right _ h))
theorem gdL_isSound : ∀ w ∈ wvL_isSound, wkGd w := wkGdC rfl (wkGdA (wkGdL (by decide +kernel)) (wkGdA (fun _ h => absurd h List.not_mem_nil) gdX11_isSound))
def rL_isSound (G : wkG) (F : Nat) (k n : Nat) (l0A : Nat) (S : wPS) (Φ : (Int64 → wPS → Prop)) : Prop :=
  ∃ k4 n5 : Nat, 0 + k4 ≤ k ∧ 0 + n5 ≤ n ∧ rX11_isSound F k4 n5 l0A S (fun v1 S2 => if v1 = 0 then (Φ (0 : Int64) S2) else (Φ (1 : Int64) S2)) (fun E6 S7 => False)
set_option maxHeartbeats 4000000 in
set_option maxRecDepth 100000 in
theorem tL_isSound {l : Launch} {g : wkG} {F : Nat} {k n : Nat}  {S : wPS} {l0A : Nat} {Φ : (Int64 → wPS → Prop)} (hst : wkSta g) (hex : wkExA g) (hlt : l.stackTraces = false) (hW : wkWF S) (hl0A : wkIs S l0A 11) (h : rL_isSound g F k n l0A S Φ) : wkMet l g yL_isSound wvL_isSound 57 k n [.ref l0A] S (fun v' S'' => ∃ v : Int64, v' = some (.long v) ∧ Φ v S'' ∧ wkWF S'' ∧ wkExt S S'') := by
  refine wkMet_of (ret := (some .long)) (by decide) rfl (Nat.le_of_ble_eq_true rfl) (fun X hg C hR E => ?_)
  subst hg
  have hE : wkExt S S := wkExt.rf
  have hd : 57 ≤ 57 := Nat.le_refl _
  show wkGo l X 1 0 0 0 S [some (.ref l0A)] []
  unfold rL_isSound at h
  refine wk_aload_n C dL_isSound_0 rfl rfl ?_
  obtain ⟨k4, n5, hk4, hn5, h⟩ := h
  refine wk_callVX C hR wkEndX_no (As := []) (cnt := 0) (tX11_isSound (l := l) hst hex hlt hW hl0A h) rfl (wkGoodV (List.mem_of_getElem? (i := 1) rfl) (List.mem_of_getElem? (i := 2) rfl) (List.mem_of_getElem? (i := 3) rfl) (List.mem_of_getElem? (i := 4) rfl) hbL_isSound_X11_isSound gdX11_isSound) (Nat.le_trans (by decide : 56 + 1 ≤ 57) hd) (by decide) hl0A.1 (fun cy => wAt_11 cy _ hl0A.2) rfl ⟨by decide, by decide, by decide +kernel⟩ rfl rfl (Nat.le_of_ble_eq_true rfl) hk4 hn5 dL_isSound_1 (fun E S' q => q.1) (fun v' S2 hp => ?_)
  obtain ⟨v1, rfl, h, hWS2, hXS2⟩ := hp
  refine wk_if_eq C (tgt := 11) dL_isSound_4 (by decide) (fun c8 => ?_) (fun c8 => ?_)
  · rw [if_pos c8] at h
    refine wk_lconst C (v := 0) dL_isSound_11 (by decide) ?_
    exact E _ _ _ _ _ _ hk4 hn5 dL_isSound_12 ⟨(0 : Int64), rfl, h, hWS2, (wkExt.tr hE hXS2)⟩
  · rw [if_neg c8] at h
    refine wk_lconst C (v := 1) dL_isSound_7 (by decide) ?_
    refine wk_goto C (tgt := 12) dL_isSound_8 (by decide) ?_
    exact E _ _ _ _ _ _ hk4 hn5 dL_isSound_12 ⟨(1 : Int64), rfl, h, hWS2, (wkExt.tr hE hXS2)⟩
def wvL_isOne : List Cond := .code yL_isOne cL_isOne 13 (some .boolean) :: (([.methodLink RL 181 yL_borrow, .static yL_borrow, .initialized RL, .methodLink RL 183 yL_length, .static yL_length, .methodLink RL 187 yL_check, .static yL_check, .constantLong RL 185 (64), .methodLink RL 195 yL_wipe, .static yL_wipe, .methodLink RL 157 yL_drawn, .static yL_drawn, .methodLink RL 190 yL_alter, .static yL_alter, .methodLink RL 193 yL_type, .static yL_type, .methodLink RL 175 yL_answer, .static yL_answer, .constantLong RL 177 (121), .constantLong RL 179 (110)] : List Cond) ++ (([]) ++ (wvL_borrow ++ (wvL_length ++ (wvL_check ++ (wvL_wipe ++ (wvL_drawn ++ (wvL_alter ++ (wvL_type ++ (wvL_answer))))))))))
theorem hbL_isOne_L_borrow : ∀ w ∈ wvL_borrow, w ∈ wvL_isOne := fun w h => List.mem_cons_of_mem _ (List.mem_append_right _ (List.mem_append_right _ (List.mem_append_left _ h)))
theorem hbL_isOne_L_length : ∀ w ∈ wvL_length, w ∈ wvL_isOne := fun w h => List.mem_cons_of_mem _ (List.mem_append_right _ (List.mem_append_right _ (List.mem_append_right _ (List.mem_append_left _ h))))
theorem hbL_isOne_L_check : ∀ w ∈ wvL_check, w ∈ wvL_isOne := fun w h => List.mem_cons_of_mem _ (List.mem_append_right _ (List.mem_append_right _ (List.mem_append_right _ (List.mem_append_right _ (List.mem_append_left _ h)))))
theorem hbL_isOne_L_wipe : ∀ w ∈ wvL_wipe, w ∈ wvL_isOne := fun w h => List.mem_cons_of_mem _ (List.mem_append_right _ (List.mem_append_right _ (List.mem_append_right _ (List.mem_append_right _ (List.mem_append_right _ (List.mem_append_left _ h))))))
theorem hbL_isOne_L_drawn : ∀ w ∈ wvL_drawn, w ∈ wvL_isOne := fun w h => List.mem_cons_of_mem _ (List.mem_append_right _ (List.mem_append_right _ (List.mem_append_right _ (List.mem_append_right _ (List.mem_append_right _ (List.mem_append_right _ (List.mem_append_left _ h)))))))
theorem hbL_isOne_L_alter : ∀ w ∈ wvL_alter, w ∈ wvL_isOne := fun w h => List.mem_cons_of_mem _ (List.mem_append_right _ (List.mem_append_right _ (List.mem_append_right _ (List.mem_append_right _ (List.mem_append_right _ (List.mem_append_right _ (List.mem_append_right _ (List.mem_append_left _ h))))))))
theorem hbL_isOne_L_type : ∀ w ∈ wvL_type, w ∈ wvL_isOne := fun w h => List.mem_cons_of_mem _ (List.mem_append_right _ (List.mem_append_right _ (List.mem_append_right _ (List.mem_append_right _ (List.mem_append_right _ (List.mem_append_right _ (List.mem_append_right _ (List.mem_append_right _ (List.mem_append_left _ h)))))))))
theorem hbL_isOne_L_answer : ∀ w ∈ wvL_answer, w ∈ wvL_isOne := fun w h => List.mem_cons_of_mem _ (List.mem_append_right _ (List.mem_append_right _ (List.mem_append_right _ (List.mem_append_right _ (List.mem_append_right _ (List.mem_append_right _ (List.mem_append_right _ (List.mem_append_right _ (List.mem_append_right _ h)))))))))
theorem gdL_isOne : ∀ w ∈ wvL_isOne, wkGd w := wkGdC rfl (wkGdA (wkGdL (by decide +kernel)) (wkGdA (fun _ h => absurd h List.not_mem_nil) (wkGdA gdL_borrow (wkGdA gdL_length (wkGdA gdL_check (wkGdA gdL_wipe (wkGdA gdL_drawn (wkGdA gdL_alter (wkGdA gdL_type gdL_answer)))))))))
def rL_isOne_b0 (G : wkG) (F : Nat) (k n : Nat) (rec : Nat → Nat → Nat → Nat → Int32 → Int32 → Int32 → Int32 → Int64 → Int32 → wPS → (Int32 → wPS → Prop) → Prop) (c s : Nat) (l0A : Nat) (l1I : Int32) (l3I : Int32) (l6I : Int32) (S : wPS) (Φ : (Int32 → wPS → Prop)) : Prop :=
  ∃ k4 n5 : Nat, c + k4 ≤ k ∧ s + n5 ≤ n ∧ rL_borrow G F k4 n5 l0A l1I S fun v1 S2 => if 0 ≤ (lg_cmp v1 (0 : Int64)) then (∃ k10 n11 : Nat, (c + k4) + k10 ≤ k ∧ (s + n5) + n11 ≤ n ∧ rL_length G F k10 n11 l0A l1I S2 fun v7 S8 => if (lg_cmp v1 v7) = 0 then (∃ k16 n17 : Nat, ((c + k4) + k10) + k16 ≤ k ∧ ((s + n5) + n11) + n17 ≤ n ∧ rL_check G F k16 n17 l0A l1I l6I S8 fun v13 S14 => if (lg_cmp v13 (0 : Int64)) = 0 then (if l6I = 0 then (∃ k29 n30 : Nat, (((c + k4) + k10) + k16) + k29 ≤ k ∧ (((s + n5) + n11) + n17) + n30 ≤ n ∧ rL_check G F k29 n30 l0A l1I (1 : Int32) S14 fun v26 S27 => if 0 ≤ (lg_cmp v26 (1 : Int64)) then (rec 1 ((((c + k4) + k10) + k16) + k29) ((((s + n5) + n11) + n17) + n30) l0A 0 l1I l3I l6I v1 (0 : Int32) S27 Φ) else (Φ (0 : Int32) S27)) else (∃ k23 n24 : Nat, (((c + k4) + k10) + k16) + k23 ≤ k ∧ (((s + n5) + n11) + n17) + n24 ≤ n ∧ rL_check G F k23 n24 l0A l1I (0 : Int32) S14 fun v20 S21 => if 0 ≤ (lg_cmp v20 (1 : Int64)) then (rec 1 ((((c + k4) + k10) + k16) + k23) ((((s + n5) + n11) + n17) + n24) l0A 0 l1I l3I l6I v1 (0 : Int32) S21 Φ) else (Φ (0 : Int32) S21))) else (Φ (0 : Int32) S14)) else (Φ (0 : Int32) S8)) else (∃ k35 n36 : Nat, (c + k4) + k35 ≤ k ∧ (s + n5) + n36 ≤ n ∧ rL_length G F k35 n36 l0A l1I S2 fun v32 S33 => if (lg_cmp v32 (64 : Int64)) ≤ 0 then (Φ (0 : Int32) S33) else (Φ (1 : Int32) S33))
def rL_isOne_b1 (G : wkG) (F : Nat) (k n : Nat) (rec : Nat → Nat → Nat → Nat → Int32 → Int32 → Int32 → Int32 → Int64 → Int32 → wPS → (Int32 → wPS → Prop) → Prop) (c s : Nat) (l0A : Nat) (l1I : Int32) (l3I : Int32) (l6I : Int32) (l7J : Int64) (l9I : Int32) (S : wPS) (Φ : (Int32 → wPS → Prop)) : Prop :=
  if (6 : Int32) ≤ l9I then (rL_wipe G F l0A S fun v39 S40 => rec 3 c s l0A 0 l1I l3I l6I 0 (0 : Int32) S40 Φ) else (rL_drawn G F (l3I + ((2 : Int32) * l9I)) (12 : Int32) S fun v44 S45 => wkLt ((v44 - (3 : Int32))) fun x49 => if (lg_cmp l7J (0 : Int64)) ≤ 0 then (rec 2 c s l0A x49 l1I l3I l6I l7J l9I S45 Φ) else (if (2 : Int32) ≤ (l9I - l9I / (3 : Int32) * (3 : Int32)) then (rec 2 c s l0A x49 l1I l3I l6I l7J l9I S45 Φ) else (rL_drawn G F ((l3I + ((2 : Int32) * l9I)) + (1 : Int32)) (Int64.toInt32 l7J) S45 fun v52 S53 => ∃ k60 n61 : Nat, c + k60 ≤ k ∧ s + n61 ≤ n ∧ rL_alter G F k60 n61 l0A v52 x49 S53 fun v57 S58 => if l6I = 0 then (∃ k73 n74 : Nat, (c + k60) + k73 ≤ k ∧ (s + n61) + n74 ≤ n ∧ rL_check G F k73 n74 l0A l1I (1 : Int32) S58 fun v70 S71 => if 0 ≤ (lg_cmp v70 (1 : Int64)) then (wkLt (l9I + (1 : Int32)) fun x76 => rec 1 ((c + k60) + k73) ((s + n61) + n74) l0A 0 l1I l3I l6I l7J x76 S71 Φ) else (Φ (0 : Int32) S71)) else (∃ k66 n67 : Nat, (c + k60) + k66 ≤ k ∧ (s + n61) + n67 ≤ n ∧ rL_check G F k66 n67 l0A l1I (0 : Int32) S58 fun v63 S64 => if 0 ≤ (lg_cmp v63 (1 : Int64)) then (wkLt (l9I + (1 : Int32)) fun x69 => rec 1 ((c + k60) + k66) ((s + n61) + n67) l0A 0 l1I l3I l6I l7J x69 S64 Φ) else (Φ (0 : Int32) S64)))))
def rL_isOne_b2 (G : wkG) (F : Nat) (k n : Nat) (rec : Nat → Nat → Nat → Nat → Int32 → Int32 → Int32 → Int32 → Int64 → Int32 → wPS → (Int32 → wPS → Prop) → Prop) (c s : Nat) (l0A : Nat) (l1I : Int32) (l3I : Int32) (l6I : Int32) (l7J : Int64) (l9I : Int32) (l10I : Int32) (S : wPS) (Φ : (Int32 → wPS → Prop)) : Prop :=
  ∃ k80 n81 : Nat, c + k80 ≤ k ∧ s + n81 ≤ n ∧ rL_type G F k80 n81 l0A l10I S fun v77 S78 => if l6I = 0 then (∃ k93 n94 : Nat, (c + k80) + k93 ≤ k ∧ (s + n81) + n94 ≤ n ∧ rL_check G F k93 n94 l0A l1I (1 : Int32) S78 fun v90 S91 => if 0 ≤ (lg_cmp v90 (1 : Int64)) then (wkLt (l9I + (1 : Int32)) fun x96 => rec 1 ((c + k80) + k93) ((s + n81) + n94) l0A 0 l1I l3I l6I l7J x96 S91 Φ) else (Φ (0 : Int32) S91)) else (∃ k86 n87 : Nat, (c + k80) + k86 ≤ k ∧ (s + n81) + n87 ≤ n ∧ rL_check G F k86 n87 l0A l1I (0 : Int32) S78 fun v83 S84 => if 0 ≤ (lg_cmp v83 (1 : Int64)) then (wkLt (l9I + (1 : Int32)) fun x89 => rec 1 ((c + k80) + k86) ((s + n81) + n87) l0A 0 l1I l3I l6I l7J x89 S84 Φ) else (Φ (0 : Int32) S84))
def rL_isOne_b3 (G : wkG) (F : Nat) (k n : Nat) (rec : Nat → Nat → Nat → Nat → Int32 → Int32 → Int32 → Int32 → Int64 → Int32 → wPS → (Int32 → wPS → Prop) → Prop) (c s : Nat) (l0A : Nat) (l1I : Int32) (l3I : Int32) (l6I : Int32) (l9I : Int32) (S : wPS) (Φ : (Int32 → wPS → Prop)) : Prop :=
  if (4 : Int32) ≤ l9I then (Φ (1 : Int32) S) else (if l6I = 0 then (∃ k119 n120 : Nat, c + k119 ≤ k ∧ s + n120 ≤ n ∧ rL_check G F k119 n120 l0A l1I (1 : Int32) S fun v116 S117 => if 0 ≤ (lg_cmp v116 (1 : Int64)) then (rL_drawn G F ((l3I + (20 : Int32)) + l9I) (10 : Int32) S117 fun v122 S123 => ∃ k130 n131 : Nat, (c + k119) + k130 ≤ k ∧ (s + n120) + n131 ≤ n ∧ rL_type G F k130 n131 l0A (v122 - (1 : Int32)) S123 fun v127 S128 => wkLt (l9I + (1 : Int32)) fun x132 => rec 3 ((c + k119) + k130) ((s + n120) + n131) l0A 0 l1I l3I l6I 0 x132 S128 Φ) else (Φ (0 : Int32) S117)) else (∃ k102 n103 : Nat, c + k102 ≤ k ∧ s + n103 ≤ n ∧ rL_check G F k102 n103 l0A l1I (0 : Int32) S fun v99 S100 => if 0 ≤ (lg_cmp v99 (1 : Int64)) then (rL_drawn G F ((l3I + (20 : Int32)) + l9I) (10 : Int32) S100 fun v105 S106 => ∃ k113 n114 : Nat, (c + k102) + k113 ≤ k ∧ (s + n103) + n114 ≤ n ∧ rL_type G F k113 n114 l0A (v105 - (1 : Int32)) S106 fun v110 S111 => wkLt (l9I + (1 : Int32)) fun x115 => rec 3 ((c + k102) + k113) ((s + n103) + n114) l0A 0 l1I l3I l6I 0 x115 S111 Φ) else (Φ (0 : Int32) S100)))
def rL_isOne_go (G : wkG) (F : Nat) (k n : Nat) : Nat → Nat → Nat → Nat → Nat → Int32 → Int32 → Int32 → Int32 → Int64 → Int32 → wPS → (Int32 → wPS → Prop) → Prop
  | 0, _, _, _, _, _, _, _, _, _, _, _, _ => False
  | k' + 1, lab, c, s, l0A, l10I, l1I, l3I, l6I, l7J, l9I, S, Φ => if lab = 0 then rL_isOne_b0 G F k n (rL_isOne_go G F k n k') c s l0A l1I l3I l6I S Φ else if lab = 1 then rL_isOne_b1 G F k n (rL_isOne_go G F k n k') c s l0A l1I l3I l6I l7J l9I S Φ else if lab = 2 then rL_isOne_b2 G F k n (rL_isOne_go G F k n k') c s l0A l1I l3I l6I l7J l9I l10I S Φ else if lab = 3 then rL_isOne_b3 G F k n (rL_isOne_go G F k n k') c s l0A l1I l3I l6I l9I S Φ else False
def rL_isOne_s (G : wkG) (F : Nat) (k n : Nat) (rec : Nat → Nat → Nat → Nat → Int32 → Int32 → Int32 → Int32 → Int64 → Int32 → wPS → (Int32 → wPS → Prop) → Prop) (l0A : Nat) (l1I : Int32) (l3I : Int32) (S : wPS) (Φ : (Int32 → wPS → Prop)) : Prop :=
  ∃ k136 n137 : Nat, 0 + k136 ≤ k ∧ 0 + n137 ≤ n ∧ rL_answer G F k136 n137 l0A l1I S fun v133 S134 => if (lg_cmp v133 (121 : Int64)) = 0 then (rec 0 (0 + k136) (0 + n137) l0A 0 l1I l3I (1 : Int32) 0 0 S134 Φ) else (if (lg_cmp v133 (110 : Int64)) = 0 then (rec 0 (0 + k136) (0 + n137) l0A 0 l1I l3I (0 : Int32) 0 0 S134 Φ) else (Φ (0 : Int32) S134))
def rL_isOne (G : wkG) (F : Nat) (k n : Nat) (l0A : Nat) (l1I : Int32) (l3I : Int32) (S : wPS) (Φ : (Int32 → wPS → Prop)) : Prop := rL_isOne_s G F k n (rL_isOne_go G F k n F) l0A l1I l3I S Φ
set_option maxHeartbeats 4000000 in
set_option maxRecDepth 100000 in
theorem tL_isOne_go {k n : Nat} {l : Launch} {X : wkX} {d F : Nat} {S0 : wPS} {Φ : (Int32 → wPS → Prop)} (hst : wkSta (wkXg X)) (hcs : wkCast (wkXg X)) (harg : wkArg (wkXg X)) (hex : wkExA (wkXg X)) (hlt : l.stackTraces = false) (C : wkC X cL_isOne RL 13 wvL_isOne) (hR : wkRm X d k n) (hd : 58 ≤ d) (E : wkEnd l X cL_isOne 13 (some .boolean) k n (fun v' S'' => ∃ v : Int32, v' = some (.int v) ∧ Φ v S'' ∧ wkWF S'' ∧ wkExt S0 S'')) : ∀ k' : Nat, (∀ (c s : Nat), c ≤ k → s ≤ n → ∀ (l0A : Nat) (l1I : Int32) (l2A : Nat) (l3I : Int32) (l6I : Int32) (S : wPS), wkWF S → wkExt S0 S → wkIs S l0A 11 → l2A = (wkXg X).1 8 → rL_isOne_go (wkXg X) F k n k' 0 c s l0A 0 l1I l3I l6I 0 0 S Φ → wkGo l X 13 c s 39 S [some (.ref l0A), some (.int l1I), some (.ref l2A), some (.int l3I), none, none, some (.int l6I), none, none, none, none, none, none] []) ∧ (∀ (c s : Nat), c ≤ k → s ≤ n → ∀ (l0A : Nat) (l1I : Int32) (l2A : Nat) (l3I : Int32) (l6I : Int32) (l7J : Int64) (l9I : Int32) (S : wPS), wkWF S → wkExt S0 S → wkIs S l0A 11 → l2A = (wkXg X).1 8 → rL_isOne_go (wkXg X) F k n k' 1 c s l0A 0 l1I l3I l6I l7J l9I S Φ → wkGo l X 13 c s 119 S [some (.ref l0A), some (.int l1I), some (.ref l2A), some (.int l3I), none, none, some (.int l6I), some (.long l7J), none, some (.int l9I), none, none, none] []) ∧ (∀ (c s : Nat), c ≤ k → s ≤ n → ∀ (l0A : Nat) (l1I : Int32) (l2A : Nat) (l3I : Int32) (l6I : Int32) (l7J : Int64) (l9I : Int32) (l10I : Int32) (S : wPS), wkWF S → wkExt S0 S → wkIs S l0A 11 → l2A = (wkXg X).1 8 → rL_isOne_go (wkXg X) F k n k' 2 c s l0A l10I l1I l3I l6I l7J l9I S Φ → wkGo l X 13 c s 181 S [some (.ref l0A), some (.int l1I), some (.ref l2A), some (.int l3I), none, none, some (.int l6I), some (.long l7J), none, some (.int l9I), some (.int l10I), none, none] []) ∧ (∀ (c s : Nat), c ≤ k → s ≤ n → ∀ (l0A : Nat) (l1I : Int32) (l2A : Nat) (l3I : Int32) (l6I : Int32) (l9I : Int32) (S : wPS), wkWF S → wkExt S0 S → wkIs S l0A 11 → l2A = (wkXg X).1 8 → rL_isOne_go (wkXg X) F k n k' 3 c s l0A 0 l1I l3I l6I 0 l9I S Φ → wkGo l X 13 c s 225 S [some (.ref l0A), some (.int l1I), some (.ref l2A), some (.int l3I), none, none, some (.int l6I), none, none, some (.int l9I), none, none, none] []) := by
  intro k'
  induction k' with
  | zero => exact ⟨fun c s hc hs l0A l1I l2A l3I l6I S hW hE hl0A hl2A h => h.elim, fun c s hc hs l0A l1I l2A l3I l6I l7J l9I S hW hE hl0A hl2A h => h.elim, fun c s hc hs l0A l1I l2A l3I l6I l7J l9I l10I S hW hE hl0A hl2A h => h.elim, fun c s hc hs l0A l1I l2A l3I l6I l9I S hW hE hl0A hl2A h => h.elim⟩
  | succ k' ih =>
    refine ⟨?_, ?_, ?_, ?_⟩
    · intro c s hc hs l0A l1I l2A l3I l6I S hW hE hl0A hl2A h
      have h : rL_isOne_b0 (wkXg X) F k n (rL_isOne_go (wkXg X) F k n k') c s l0A l1I l3I l6I S Φ := by
        rw [rL_isOne_go, if_pos (rfl : (0 : Nat) = 0)] at h
        exact h
      unfold rL_isOne_b0 at h
      refine wk_aload_n C dL_isOne_39 rfl rfl ?_
      refine wk_iload_n C dL_isOne_40 rfl rfl ?_
      obtain ⟨k4, n5, hk4, hn5, h⟩ := h
      refine wk_callT C hR (As := [.ref l0A, .int l1I]) (cnt := 2) (tL_borrow (l := l) hst hcs hex hlt hW hl0A h) rfl (wkGoodW (List.mem_of_getElem? (i := 1) rfl) (List.mem_of_getElem? (i := 2) rfl) (List.mem_of_getElem? (i := 3) rfl) hbL_isOne_L_borrow gdL_borrow) (Nat.le_trans (by decide : 57 + 1 ≤ 58) hd) (by decide) ⟨by decide, by decide, by decide +kernel⟩ rfl rfl (Nat.le_of_ble_eq_true rfl) hk4 hn5 dL_isOne_41 (fun v' S2 hp => ?_)
      obtain ⟨v1, rfl, h, hWS2, hXS2⟩ := hp
      refine wk_lstore C (lv' := [some (.ref l0A), some (.int l1I), some (.ref l2A), some (.int l3I), none, none, some (.int l6I), some (.long v1), none, none, none, none, none]) dL_isOne_44 (by decide) rfl ?_
      refine wk_lload C dL_isOne_46 rfl ?_
      refine wk_lconst C (v := 0) dL_isOne_48 (by decide) ?_
      refine wk_lcmp C dL_isOne_49 rfl ?_
      refine wk_if_ge C (tgt := 71) dL_isOne_50 (by decide) (fun c6 => ?_) (fun c6 => ?_)
      · rw [if_pos c6] at h
        refine wk_lload C dL_isOne_71 rfl ?_
        refine wk_aload_n C dL_isOne_73 rfl rfl ?_
        refine wk_iload_n C dL_isOne_74 rfl rfl ?_
        obtain ⟨k10, n11, hk10, hn11, h⟩ := h
        refine wk_callT C hR (As := [.ref l0A, .int l1I]) (cnt := 2) (tL_length (l := l) hst hcs hex hlt hWS2 (hXS2 _ _ hl0A) h) rfl (wkGoodW (List.mem_of_getElem? (i := 4) rfl) (List.mem_of_getElem? (i := 5) rfl) (List.mem_of_getElem? (i := 3) rfl) hbL_isOne_L_length gdL_length) (Nat.le_trans (by decide : 57 + 1 ≤ 58) hd) (by decide) ⟨by decide, by decide, by decide +kernel⟩ rfl rfl (Nat.le_of_ble_eq_true rfl) hk10 hn11 dL_isOne_75 (fun v' S8 hp => ?_)
        obtain ⟨v7, rfl, h, hWS8, hXS8⟩ := hp
        refine wk_lcmp C dL_isOne_78 rfl ?_
        refine wk_if_ne C (tgt := 114) dL_isOne_79 (by decide) (fun c12 => ?_) (fun c12 => ?_)
        · rw [if_neg c12] at h
          refine wk_iconst C (v := 0) dL_isOne_114 (by decide) ?_
          exact E _ _ _ _ _ _ hk10 hn11 dL_isOne_115 rfl ⟨(0 : Int32), rfl, h, hWS8, (wkExt.tr (wkExt.tr hE hXS2) hXS8)⟩
        · rw [if_pos c12] at h
          refine wk_aload_n C dL_isOne_82 rfl rfl ?_
          refine wk_iload_n C dL_isOne_83 rfl rfl ?_
          refine wk_iload C dL_isOne_84 rfl ?_
          obtain ⟨k16, n17, hk16, hn17, h⟩ := h
          refine wk_callT C hR (As := [.ref l0A, .int l1I, .int l6I]) (cnt := 3) (tL_check (l := l) hst hcs hex hlt hWS8 (hXS8 _ _ (hXS2 _ _ hl0A)) h) rfl (wkGoodW (List.mem_of_getElem? (i := 6) rfl) (List.mem_of_getElem? (i := 7) rfl) (List.mem_of_getElem? (i := 3) rfl) hbL_isOne_L_check gdL_check) (Nat.le_trans (by decide : 57 + 1 ≤ 58) hd) (by decide) ⟨by decide, by decide, by decide +kernel⟩ rfl rfl (Nat.le_of_ble_eq_true rfl) hk16 hn17 dL_isOne_86 (fun v' S14 hp => ?_)
          obtain ⟨v13, rfl, h, hWS14, hXS14⟩ := hp
          refine wk_lconst C (v := 0) dL_isOne_89 (by decide) ?_
          refine wk_lcmp C dL_isOne_90 rfl ?_
          refine wk_if_ne C (tgt := 114) dL_isOne_91 (by decide) (fun c18 => ?_) (fun c18 => ?_)
          · rw [if_neg c18] at h
            refine wk_iconst C (v := 0) dL_isOne_114 (by decide) ?_
            exact E _ _ _ _ _ _ hk16 hn17 dL_isOne_115 rfl ⟨(0 : Int32), rfl, h, hWS14, (wkExt.tr (wkExt.tr (wkExt.tr hE hXS2) hXS8) hXS14)⟩
          · rw [if_pos c18] at h
            refine wk_aload_n C dL_isOne_94 rfl rfl ?_
            refine wk_iload_n C dL_isOne_95 rfl rfl ?_
            refine wk_iload C dL_isOne_96 rfl ?_
            refine wk_if_ne C (tgt := 105) dL_isOne_98 (by decide) (fun c19 => ?_) (fun c19 => ?_)
            · rw [if_neg c19] at h
              refine wk_iconst C (v := 0) dL_isOne_105 (by decide) ?_
              obtain ⟨k23, n24, hk23, hn24, h⟩ := h
              refine wk_callT C hR (As := [.ref l0A, .int l1I, .int (0 : Int32)]) (cnt := 3) (tL_check (l := l) hst hcs hex hlt hWS14 (hXS14 _ _ (hXS8 _ _ (hXS2 _ _ hl0A))) h) rfl (wkGoodW (List.mem_of_getElem? (i := 6) rfl) (List.mem_of_getElem? (i := 7) rfl) (List.mem_of_getElem? (i := 3) rfl) hbL_isOne_L_check gdL_check) (Nat.le_trans (by decide : 57 + 1 ≤ 58) hd) (by decide) ⟨by decide, by decide, by decide +kernel⟩ rfl rfl (Nat.le_of_ble_eq_true rfl) hk23 hn24 dL_isOne_106 (fun v' S21 hp => ?_)
              obtain ⟨v20, rfl, h, hWS21, hXS21⟩ := hp
              refine wk_lconst C (v := 1) dL_isOne_109 (by decide) ?_
              refine wk_lcmp C dL_isOne_110 rfl ?_
              refine wk_if_ge C (tgt := 116) dL_isOne_111 (by decide) (fun c25 => ?_) (fun c25 => ?_)
              · rw [if_pos c25] at h
                refine wk_iconst C (v := 0) dL_isOne_116 (by decide) ?_
                refine wk_istore C (lv' := [some (.ref l0A), some (.int l1I), some (.ref l2A), some (.int l3I), none, none, some (.int l6I), some (.long v1), none, some (.int (0 : Int32)), none, none, none]) dL_isOne_117 (by decide) rfl ?_
                exact wk_forget (lv' := [some (.ref l0A), some (.int l1I), some (.ref l2A), some (.int l3I), none, none, some (.int l6I), some (.long v1), none, some (.int (0 : Int32)), none, none, none]) (wkLs.le ⟨rfl, rfl, rfl, rfl, rfl, rfl, rfl, trivial⟩) (ih.2.1 _ _ hk23 hn24 _ _ _ _ _ _ _ _ hWS21 (wkExt.tr (wkExt.tr (wkExt.tr (wkExt.tr hE hXS2) hXS8) hXS14) hXS21) (hXS21 _ _ (hXS14 _ _ (hXS8 _ _ (hXS2 _ _ hl0A)))) hl2A h)
              · rw [if_neg c25] at h
                refine wk_iconst C (v := 0) dL_isOne_114 (by decide) ?_
                exact E _ _ _ _ _ _ hk23 hn24 dL_isOne_115 rfl ⟨(0 : Int32), rfl, h, hWS21, (wkExt.tr (wkExt.tr (wkExt.tr (wkExt.tr hE hXS2) hXS8) hXS14) hXS21)⟩
            · rw [if_pos c19] at h
              refine wk_iconst C (v := 1) dL_isOne_101 (by decide) ?_
              refine wk_goto C (tgt := 106) dL_isOne_102 (by decide) ?_
              obtain ⟨k29, n30, hk29, hn30, h⟩ := h
              refine wk_callT C hR (As := [.ref l0A, .int l1I, .int (1 : Int32)]) (cnt := 3) (tL_check (l := l) hst hcs hex hlt hWS14 (hXS14 _ _ (hXS8 _ _ (hXS2 _ _ hl0A))) h) rfl (wkGoodW (List.mem_of_getElem? (i := 6) rfl) (List.mem_of_getElem? (i := 7) rfl) (List.mem_of_getElem? (i := 3) rfl) hbL_isOne_L_check gdL_check) (Nat.le_trans (by decide : 57 + 1 ≤ 58) hd) (by decide) ⟨by decide, by decide, by decide +kernel⟩ rfl rfl (Nat.le_of_ble_eq_true rfl) hk29 hn30 dL_isOne_106 (fun v' S27 hp => ?_)
              obtain ⟨v26, rfl, h, hWS27, hXS27⟩ := hp
              refine wk_lconst C (v := 1) dL_isOne_109 (by decide) ?_
              refine wk_lcmp C dL_isOne_110 rfl ?_
              refine wk_if_ge C (tgt := 116) dL_isOne_111 (by decide) (fun c31 => ?_) (fun c31 => ?_)
              · rw [if_pos c31] at h
                refine wk_iconst C (v := 0) dL_isOne_116 (by decide) ?_
                refine wk_istore C (lv' := [some (.ref l0A), some (.int l1I), some (.ref l2A), some (.int l3I), none, none, some (.int l6I), some (.long v1), none, some (.int (0 : Int32)), none, none, none]) dL_isOne_117 (by decide) rfl ?_
                exact wk_forget (lv' := [some (.ref l0A), some (.int l1I), some (.ref l2A), some (.int l3I), none, none, some (.int l6I), some (.long v1), none, some (.int (0 : Int32)), none, none, none]) (wkLs.le ⟨rfl, rfl, rfl, rfl, rfl, rfl, rfl, trivial⟩) (ih.2.1 _ _ hk29 hn30 _ _ _ _ _ _ _ _ hWS27 (wkExt.tr (wkExt.tr (wkExt.tr (wkExt.tr hE hXS2) hXS8) hXS14) hXS27) (hXS27 _ _ (hXS14 _ _ (hXS8 _ _ (hXS2 _ _ hl0A)))) hl2A h)
              · rw [if_neg c31] at h
                refine wk_iconst C (v := 0) dL_isOne_114 (by decide) ?_
                exact E _ _ _ _ _ _ hk29 hn30 dL_isOne_115 rfl ⟨(0 : Int32), rfl, h, hWS27, (wkExt.tr (wkExt.tr (wkExt.tr (wkExt.tr hE hXS2) hXS8) hXS14) hXS27)⟩
      · rw [if_neg c6] at h
        refine wk_aload_n C dL_isOne_53 rfl rfl ?_
        refine wk_iload_n C dL_isOne_54 rfl rfl ?_
        obtain ⟨k35, n36, hk35, hn36, h⟩ := h
        refine wk_callT C hR (As := [.ref l0A, .int l1I]) (cnt := 2) (tL_length (l := l) hst hcs hex hlt hWS2 (hXS2 _ _ hl0A) h) rfl (wkGoodW (List.mem_of_getElem? (i := 4) rfl) (List.mem_of_getElem? (i := 5) rfl) (List.mem_of_getElem? (i := 3) rfl) hbL_isOne_L_length gdL_length) (Nat.le_trans (by decide : 57 + 1 ≤ 58) hd) (by decide) ⟨by decide, by decide, by decide +kernel⟩ rfl rfl (Nat.le_of_ble_eq_true rfl) hk35 hn36 dL_isOne_55 (fun v' S33 hp => ?_)
        obtain ⟨v32, rfl, h, hWS33, hXS33⟩ := hp
        refine wk_ldc2 C (v := 64) (List.mem_of_getElem? (i := 8) rfl) dL_isOne_58 ?_
        refine wk_lcmp C dL_isOne_61 rfl ?_
        refine wk_if_le C (tgt := 69) dL_isOne_62 (by decide) (fun c37 => ?_) (fun c37 => ?_)
        · rw [if_pos c37] at h
          refine wk_iconst C (v := 0) dL_isOne_69 (by decide) ?_
          exact E _ _ _ _ _ _ hk35 hn36 dL_isOne_70 rfl ⟨(0 : Int32), rfl, h, hWS33, (wkExt.tr (wkExt.tr hE hXS2) hXS33)⟩
        · rw [if_neg c37] at h
          refine wk_iconst C (v := 1) dL_isOne_65 (by decide) ?_
          refine wk_goto C (tgt := 70) dL_isOne_66 (by decide) ?_
          exact E _ _ _ _ _ _ hk35 hn36 dL_isOne_70 rfl ⟨(1 : Int32), rfl, h, hWS33, (wkExt.tr (wkExt.tr hE hXS2) hXS33)⟩
    · intro c s hc hs l0A l1I l2A l3I l6I l7J l9I S hW hE hl0A hl2A h
      have h : rL_isOne_b1 (wkXg X) F k n (rL_isOne_go (wkXg X) F k n k') c s l0A l1I l3I l6I l7J l9I S Φ := by
        rw [rL_isOne_go, if_neg (show ¬ (1 : Nat) = 0 by decide), if_pos (rfl : (1 : Nat) = 1)] at h
        exact h
      unfold rL_isOne_b1 at h
      refine wk_iload C dL_isOne_119 rfl ?_
      refine wk_bipush C (v := 6) dL_isOne_121 (by decide) ?_
      refine wk_icmp_ge C (tgt := 217) dL_isOne_123 (by decide) (fun c38 => ?_) (fun c38 => ?_)
      · rw [if_pos c38] at h
        refine wk_aload_n C dL_isOne_217 rfl rfl ?_
        refine wk_callW C hR (As := [.ref l0A]) (cnt := 1) (tL_wipe (l := l) hW hl0A h) rfl (wkGoodW (List.mem_of_getElem? (i := 9) rfl) (List.mem_of_getElem? (i := 10) rfl) (List.mem_of_getElem? (i := 3) rfl) hbL_isOne_L_wipe gdL_wipe) (Nat.le_trans (by decide : 2 + 1 ≤ 58) hd) (by decide) ⟨by decide, by decide, by decide +kernel⟩ rfl rfl (Nat.le_of_ble_eq_true rfl) hc hs dL_isOne_218 (fun v' S40 hp => ?_)
        obtain ⟨v39, rfl, h, hWS40, hXS40⟩ := hp
        refine wk_pop2L C dL_isOne_221 rfl ?_
        refine wk_iconst C (v := 0) dL_isOne_222 (by decide) ?_
        refine wk_istore C (lv' := [some (.ref l0A), some (.int l1I), some (.ref l2A), some (.int l3I), none, none, some (.int l6I), some (.long l7J), none, some (.int (0 : Int32)), none, none, none]) dL_isOne_223 (by decide) rfl ?_
        exact wk_forget (lv' := [some (.ref l0A), some (.int l1I), some (.ref l2A), some (.int l3I), none, none, some (.int l6I), none, none, some (.int (0 : Int32)), none, none, none]) (wkLs.le ⟨rfl, rfl, rfl, rfl, rfl, rfl, trivial⟩) (ih.2.2.2 _ _ hc hs _ _ _ _ _ _ _ hWS40 (wkExt.tr hE hXS40) (hXS40 _ _ hl0A) hl2A h)
      · rw [if_neg c38] at h
        refine wk_aload_n C dL_isOne_126 rfl rfl ?_
        refine wk_iload_n C dL_isOne_127 rfl rfl ?_
        refine wk_iconst C (v := 2) dL_isOne_128 (by decide) ?_
        refine wk_iload C dL_isOne_129 rfl ?_
        refine wk_imul C dL_isOne_131 rfl ?_
        refine wk_iadd C dL_isOne_132 rfl ?_
        refine wk_bipush C (v := 12) dL_isOne_133 (by decide) ?_
        refine wk_callW C hR (As := [.ref l2A, .int (l3I + ((2 : Int32) * l9I)), .int (12 : Int32)]) (cnt := 3) (tL_drawn (l := l) harg hW hl2A h) rfl (wkGoodW (List.mem_of_getElem? (i := 11) rfl) (List.mem_of_getElem? (i := 12) rfl) (List.mem_of_getElem? (i := 3) rfl) hbL_isOne_L_drawn gdL_drawn) (Nat.le_trans (by decide : 1 + 1 ≤ 58) hd) (by decide) ⟨by decide, by decide, by decide +kernel⟩ rfl rfl (Nat.le_of_ble_eq_true rfl) hc hs dL_isOne_135 (fun v' S45 hp => ?_)
        obtain ⟨v44, rfl, h, hWS45, hXS45⟩ := hp
        refine wk_iconst C (v := 3) dL_isOne_138 (by decide) ?_
        refine wk_isub C dL_isOne_139 rfl ?_
        obtain ⟨x49, ex49, h⟩ := wkLt_some h
        refine wk_topi ex49 ?_
        refine wk_istore C (lv' := [some (.ref l0A), some (.int l1I), some (.ref l2A), some (.int l3I), none, none, some (.int l6I), some (.long l7J), none, some (.int l9I), some (.int x49), none, none]) dL_isOne_140 (by decide) rfl ?_
        refine wk_lload C dL_isOne_142 rfl ?_
        refine wk_lconst C (v := 0) dL_isOne_144 (by decide) ?_
        refine wk_lcmp C dL_isOne_145 rfl ?_
        refine wk_if_le C (tgt := 181) dL_isOne_146 (by decide) (fun c50 => ?_) (fun c50 => ?_)
        · rw [if_pos c50] at h
          exact wk_forget (lv' := [some (.ref l0A), some (.int l1I), some (.ref l2A), some (.int l3I), none, none, some (.int l6I), some (.long l7J), none, some (.int l9I), some (.int x49), none, none]) (wkLs.le ⟨rfl, rfl, rfl, rfl, rfl, rfl, rfl, rfl, trivial⟩) (ih.2.2.1 _ _ hc hs _ _ _ _ _ _ _ _ _ hWS45 (wkExt.tr hE hXS45) (hXS45 _ _ hl0A) hl2A h)
        · rw [if_neg c50] at h
          refine wk_iload C dL_isOne_149 rfl ?_
          refine wk_iconst C (v := 3) dL_isOne_151 (by decide) ?_
          refine wk_irem C dL_isOne_152 (by decide) rfl ?_
          refine wk_iconst C (v := 2) dL_isOne_153 (by decide) ?_
          refine wk_icmp_ge C (tgt := 181) dL_isOne_154 (by decide) (fun c51 => ?_) (fun c51 => ?_)
          · rw [if_pos c51] at h
            exact wk_forget (lv' := [some (.ref l0A), some (.int l1I), some (.ref l2A), some (.int l3I), none, none, some (.int l6I), some (.long l7J), none, some (.int l9I), some (.int x49), none, none]) (wkLs.le ⟨rfl, rfl, rfl, rfl, rfl, rfl, rfl, rfl, trivial⟩) (ih.2.2.1 _ _ hc hs _ _ _ _ _ _ _ _ _ hWS45 (wkExt.tr hE hXS45) (hXS45 _ _ hl0A) hl2A h)
          · rw [if_neg c51] at h
            refine wk_aload_n C dL_isOne_157 rfl rfl ?_
            refine wk_aload_n C dL_isOne_158 rfl rfl ?_
            refine wk_iload_n C dL_isOne_159 rfl rfl ?_
            refine wk_iconst C (v := 2) dL_isOne_160 (by decide) ?_
            refine wk_iload C dL_isOne_161 rfl ?_
            refine wk_imul C dL_isOne_163 rfl ?_
            refine wk_iadd C dL_isOne_164 rfl ?_
            refine wk_iconst C (v := 1) dL_isOne_165 (by decide) ?_
            refine wk_iadd C dL_isOne_166 rfl ?_
            refine wk_lload C dL_isOne_167 rfl ?_
            refine wk_l2i C dL_isOne_169 rfl ?_
            refine wk_callW C hR (As := [.ref l2A, .int ((l3I + ((2 : Int32) * l9I)) + (1 : Int32)), .int (Int64.toInt32 l7J)]) (cnt := 3) (tL_drawn (l := l) harg hWS45 hl2A h) rfl (wkGoodW (List.mem_of_getElem? (i := 11) rfl) (List.mem_of_getElem? (i := 12) rfl) (List.mem_of_getElem? (i := 3) rfl) hbL_isOne_L_drawn gdL_drawn) (Nat.le_trans (by decide : 1 + 1 ≤ 58) hd) (by decide) ⟨by decide, by decide, by decide +kernel⟩ rfl rfl (Nat.le_of_ble_eq_true rfl) hc hs dL_isOne_170 (fun v' S53 hp => ?_)
            obtain ⟨v52, rfl, h, hWS53, hXS53⟩ := hp
            refine wk_iload C dL_isOne_173 rfl ?_
            obtain ⟨k60, n61, hk60, hn61, h⟩ := h
            refine wk_callT C hR (As := [.ref l0A, .int v52, .int x49]) (cnt := 3) (tL_alter (l := l) hcs hex hlt hWS53 (hXS53 _ _ (hXS45 _ _ hl0A)) h) rfl (wkGoodW (List.mem_of_getElem? (i := 13) rfl) (List.mem_of_getElem? (i := 14) rfl) (List.mem_of_getElem? (i := 3) rfl) hbL_isOne_L_alter gdL_alter) (Nat.le_trans (by decide : 8 + 1 ≤ 58) hd) (by decide) ⟨by decide, by decide, by decide +kernel⟩ rfl rfl (Nat.le_of_ble_eq_true rfl) hk60 hn61 dL_isOne_175 (fun v' S58 hp => ?_)
            obtain ⟨v57, rfl, h, hWS58, hXS58⟩ := hp
            refine wk_goto C (tgt := 187) dL_isOne_178 (by decide) ?_
            refine wk_lstore C (lv' := [some (.ref l0A), some (.int l1I), some (.ref l2A), some (.int l3I), none, none, some (.int l6I), some (.long l7J), none, some (.int l9I), some (.int x49), some (.long v57), none]) dL_isOne_187 (by decide) rfl ?_
            refine wk_aload_n C dL_isOne_189 rfl rfl ?_
            refine wk_iload_n C dL_isOne_190 rfl rfl ?_
            refine wk_iload C dL_isOne_191 rfl ?_
            refine wk_if_ne C (tgt := 200) dL_isOne_193 (by decide) (fun c62 => ?_) (fun c62 => ?_)
            · rw [if_neg c62] at h
              refine wk_iconst C (v := 0) dL_isOne_200 (by decide) ?_
              obtain ⟨k66, n67, hk66, hn67, h⟩ := h
              refine wk_callT C hR (As := [.ref l0A, .int l1I, .int (0 : Int32)]) (cnt := 3) (tL_check (l := l) hst hcs hex hlt hWS58 (hXS58 _ _ (hXS53 _ _ (hXS45 _ _ hl0A))) h) rfl (wkGoodW (List.mem_of_getElem? (i := 6) rfl) (List.mem_of_getElem? (i := 7) rfl) (List.mem_of_getElem? (i := 3) rfl) hbL_isOne_L_check gdL_check) (Nat.le_trans (by decide : 57 + 1 ≤ 58) hd) (by decide) ⟨by decide, by decide, by decide +kernel⟩ rfl rfl (Nat.le_of_ble_eq_true rfl) hk66 hn67 dL_isOne_201 (fun v' S64 hp => ?_)
              obtain ⟨v63, rfl, h, hWS64, hXS64⟩ := hp
              refine wk_lconst C (v := 1) dL_isOne_204 (by decide) ?_
              refine wk_lcmp C dL_isOne_205 rfl ?_
              refine wk_if_ge C (tgt := 211) dL_isOne_206 (by decide) (fun c68 => ?_) (fun c68 => ?_)
              · rw [if_pos c68] at h
                obtain ⟨x69, ex69, h⟩ := wkLt_some h
                refine wk_iinc C (lv' := [some (.ref l0A), some (.int l1I), some (.ref l2A), some (.int l3I), none, none, some (.int l6I), some (.long l7J), none, some (.int x69), some (.int x49), some (.long v57), none]) dL_isOne_211 rfl (by rw [ex69]; rfl) (by decide) rfl ?_
                refine wk_goto C (tgt := 119) dL_isOne_214 (by decide) ?_
                exact wk_forget (lv' := [some (.ref l0A), some (.int l1I), some (.ref l2A), some (.int l3I), none, none, some (.int l6I), some (.long l7J), none, some (.int x69), none, none, none]) (wkLs.le ⟨rfl, rfl, rfl, rfl, rfl, rfl, rfl, trivial⟩) (ih.2.1 _ _ hk66 hn67 _ _ _ _ _ _ _ _ hWS64 (wkExt.tr (wkExt.tr (wkExt.tr (wkExt.tr hE hXS45) hXS53) hXS58) hXS64) (hXS64 _ _ (hXS58 _ _ (hXS53 _ _ (hXS45 _ _ hl0A)))) hl2A h)
              · rw [if_neg c68] at h
                refine wk_iconst C (v := 0) dL_isOne_209 (by decide) ?_
                exact E _ _ _ _ _ _ hk66 hn67 dL_isOne_210 rfl ⟨(0 : Int32), rfl, h, hWS64, (wkExt.tr (wkExt.tr (wkExt.tr (wkExt.tr hE hXS45) hXS53) hXS58) hXS64)⟩
            · rw [if_pos c62] at h
              refine wk_iconst C (v := 1) dL_isOne_196 (by decide) ?_
              refine wk_goto C (tgt := 201) dL_isOne_197 (by decide) ?_
              obtain ⟨k73, n74, hk73, hn74, h⟩ := h
              refine wk_callT C hR (As := [.ref l0A, .int l1I, .int (1 : Int32)]) (cnt := 3) (tL_check (l := l) hst hcs hex hlt hWS58 (hXS58 _ _ (hXS53 _ _ (hXS45 _ _ hl0A))) h) rfl (wkGoodW (List.mem_of_getElem? (i := 6) rfl) (List.mem_of_getElem? (i := 7) rfl) (List.mem_of_getElem? (i := 3) rfl) hbL_isOne_L_check gdL_check) (Nat.le_trans (by decide : 57 + 1 ≤ 58) hd) (by decide) ⟨by decide, by decide, by decide +kernel⟩ rfl rfl (Nat.le_of_ble_eq_true rfl) hk73 hn74 dL_isOne_201 (fun v' S71 hp => ?_)
              obtain ⟨v70, rfl, h, hWS71, hXS71⟩ := hp
              refine wk_lconst C (v := 1) dL_isOne_204 (by decide) ?_
              refine wk_lcmp C dL_isOne_205 rfl ?_
              refine wk_if_ge C (tgt := 211) dL_isOne_206 (by decide) (fun c75 => ?_) (fun c75 => ?_)
              · rw [if_pos c75] at h
                obtain ⟨x76, ex76, h⟩ := wkLt_some h
                refine wk_iinc C (lv' := [some (.ref l0A), some (.int l1I), some (.ref l2A), some (.int l3I), none, none, some (.int l6I), some (.long l7J), none, some (.int x76), some (.int x49), some (.long v57), none]) dL_isOne_211 rfl (by rw [ex76]; rfl) (by decide) rfl ?_
                refine wk_goto C (tgt := 119) dL_isOne_214 (by decide) ?_
                exact wk_forget (lv' := [some (.ref l0A), some (.int l1I), some (.ref l2A), some (.int l3I), none, none, some (.int l6I), some (.long l7J), none, some (.int x76), none, none, none]) (wkLs.le ⟨rfl, rfl, rfl, rfl, rfl, rfl, rfl, trivial⟩) (ih.2.1 _ _ hk73 hn74 _ _ _ _ _ _ _ _ hWS71 (wkExt.tr (wkExt.tr (wkExt.tr (wkExt.tr hE hXS45) hXS53) hXS58) hXS71) (hXS71 _ _ (hXS58 _ _ (hXS53 _ _ (hXS45 _ _ hl0A)))) hl2A h)
              · rw [if_neg c75] at h
                refine wk_iconst C (v := 0) dL_isOne_209 (by decide) ?_
                exact E _ _ _ _ _ _ hk73 hn74 dL_isOne_210 rfl ⟨(0 : Int32), rfl, h, hWS71, (wkExt.tr (wkExt.tr (wkExt.tr (wkExt.tr hE hXS45) hXS53) hXS58) hXS71)⟩
    · intro c s hc hs l0A l1I l2A l3I l6I l7J l9I l10I S hW hE hl0A hl2A h
      have h : rL_isOne_b2 (wkXg X) F k n (rL_isOne_go (wkXg X) F k n k') c s l0A l1I l3I l6I l7J l9I l10I S Φ := by
        rw [rL_isOne_go, if_neg (show ¬ (2 : Nat) = 0 by decide), if_neg (show ¬ (2 : Nat) = 1 by decide), if_pos (rfl : (2 : Nat) = 2)] at h
        exact h
      unfold rL_isOne_b2 at h
      refine wk_aload_n C dL_isOne_181 rfl rfl ?_
      refine wk_iload C dL_isOne_182 rfl ?_
      obtain ⟨k80, n81, hk80, hn81, h⟩ := h
      refine wk_callT C hR (As := [.ref l0A, .int l10I]) (cnt := 2) (tL_type (l := l) hcs hex hlt hW hl0A h) rfl (wkGoodW (List.mem_of_getElem? (i := 15) rfl) (List.mem_of_getElem? (i := 16) rfl) (List.mem_of_getElem? (i := 3) rfl) hbL_isOne_L_type gdL_type) (Nat.le_trans (by decide : 7 + 1 ≤ 58) hd) (by decide) ⟨by decide, by decide, by decide +kernel⟩ rfl rfl (Nat.le_of_ble_eq_true rfl) hk80 hn81 dL_isOne_184 (fun v' S78 hp => ?_)
      obtain ⟨v77, rfl, h, hWS78, hXS78⟩ := hp
      refine wk_lstore C (lv' := [some (.ref l0A), some (.int l1I), some (.ref l2A), some (.int l3I), none, none, some (.int l6I), some (.long l7J), none, some (.int l9I), some (.int l10I), some (.long v77), none]) dL_isOne_187 (by decide) rfl ?_
      refine wk_aload_n C dL_isOne_189 rfl rfl ?_
      refine wk_iload_n C dL_isOne_190 rfl rfl ?_
      refine wk_iload C dL_isOne_191 rfl ?_
      refine wk_if_ne C (tgt := 200) dL_isOne_193 (by decide) (fun c82 => ?_) (fun c82 => ?_)
      · rw [if_neg c82] at h
        refine wk_iconst C (v := 0) dL_isOne_200 (by decide) ?_
        obtain ⟨k86, n87, hk86, hn87, h⟩ := h
        refine wk_callT C hR (As := [.ref l0A, .int l1I, .int (0 : Int32)]) (cnt := 3) (tL_check (l := l) hst hcs hex hlt hWS78 (hXS78 _ _ hl0A) h) rfl (wkGoodW (List.mem_of_getElem? (i := 6) rfl) (List.mem_of_getElem? (i := 7) rfl) (List.mem_of_getElem? (i := 3) rfl) hbL_isOne_L_check gdL_check) (Nat.le_trans (by decide : 57 + 1 ≤ 58) hd) (by decide) ⟨by decide, by decide, by decide +kernel⟩ rfl rfl (Nat.le_of_ble_eq_true rfl) hk86 hn87 dL_isOne_201 (fun v' S84 hp => ?_)
        obtain ⟨v83, rfl, h, hWS84, hXS84⟩ := hp
        refine wk_lconst C (v := 1) dL_isOne_204 (by decide) ?_
        refine wk_lcmp C dL_isOne_205 rfl ?_
        refine wk_if_ge C (tgt := 211) dL_isOne_206 (by decide) (fun c88 => ?_) (fun c88 => ?_)
        · rw [if_pos c88] at h
          obtain ⟨x89, ex89, h⟩ := wkLt_some h
          refine wk_iinc C (lv' := [some (.ref l0A), some (.int l1I), some (.ref l2A), some (.int l3I), none, none, some (.int l6I), some (.long l7J), none, some (.int x89), some (.int l10I), some (.long v77), none]) dL_isOne_211 rfl (by rw [ex89]; rfl) (by decide) rfl ?_
          refine wk_goto C (tgt := 119) dL_isOne_214 (by decide) ?_
          exact wk_forget (lv' := [some (.ref l0A), some (.int l1I), some (.ref l2A), some (.int l3I), none, none, some (.int l6I), some (.long l7J), none, some (.int x89), none, none, none]) (wkLs.le ⟨rfl, rfl, rfl, rfl, rfl, rfl, rfl, trivial⟩) (ih.2.1 _ _ hk86 hn87 _ _ _ _ _ _ _ _ hWS84 (wkExt.tr (wkExt.tr hE hXS78) hXS84) (hXS84 _ _ (hXS78 _ _ hl0A)) hl2A h)
        · rw [if_neg c88] at h
          refine wk_iconst C (v := 0) dL_isOne_209 (by decide) ?_
          exact E _ _ _ _ _ _ hk86 hn87 dL_isOne_210 rfl ⟨(0 : Int32), rfl, h, hWS84, (wkExt.tr (wkExt.tr hE hXS78) hXS84)⟩
      · rw [if_pos c82] at h
        refine wk_iconst C (v := 1) dL_isOne_196 (by decide) ?_
        refine wk_goto C (tgt := 201) dL_isOne_197 (by decide) ?_
        obtain ⟨k93, n94, hk93, hn94, h⟩ := h
        refine wk_callT C hR (As := [.ref l0A, .int l1I, .int (1 : Int32)]) (cnt := 3) (tL_check (l := l) hst hcs hex hlt hWS78 (hXS78 _ _ hl0A) h) rfl (wkGoodW (List.mem_of_getElem? (i := 6) rfl) (List.mem_of_getElem? (i := 7) rfl) (List.mem_of_getElem? (i := 3) rfl) hbL_isOne_L_check gdL_check) (Nat.le_trans (by decide : 57 + 1 ≤ 58) hd) (by decide) ⟨by decide, by decide, by decide +kernel⟩ rfl rfl (Nat.le_of_ble_eq_true rfl) hk93 hn94 dL_isOne_201 (fun v' S91 hp => ?_)
        obtain ⟨v90, rfl, h, hWS91, hXS91⟩ := hp
        refine wk_lconst C (v := 1) dL_isOne_204 (by decide) ?_
        refine wk_lcmp C dL_isOne_205 rfl ?_
        refine wk_if_ge C (tgt := 211) dL_isOne_206 (by decide) (fun c95 => ?_) (fun c95 => ?_)
        · rw [if_pos c95] at h
          obtain ⟨x96, ex96, h⟩ := wkLt_some h
          refine wk_iinc C (lv' := [some (.ref l0A), some (.int l1I), some (.ref l2A), some (.int l3I), none, none, some (.int l6I), some (.long l7J), none, some (.int x96), some (.int l10I), some (.long v77), none]) dL_isOne_211 rfl (by rw [ex96]; rfl) (by decide) rfl ?_
          refine wk_goto C (tgt := 119) dL_isOne_214 (by decide) ?_
          exact wk_forget (lv' := [some (.ref l0A), some (.int l1I), some (.ref l2A), some (.int l3I), none, none, some (.int l6I), some (.long l7J), none, some (.int x96), none, none, none]) (wkLs.le ⟨rfl, rfl, rfl, rfl, rfl, rfl, rfl, trivial⟩) (ih.2.1 _ _ hk93 hn94 _ _ _ _ _ _ _ _ hWS91 (wkExt.tr (wkExt.tr hE hXS78) hXS91) (hXS91 _ _ (hXS78 _ _ hl0A)) hl2A h)
        · rw [if_neg c95] at h
          refine wk_iconst C (v := 0) dL_isOne_209 (by decide) ?_
          exact E _ _ _ _ _ _ hk93 hn94 dL_isOne_210 rfl ⟨(0 : Int32), rfl, h, hWS91, (wkExt.tr (wkExt.tr hE hXS78) hXS91)⟩
    · intro c s hc hs l0A l1I l2A l3I l6I l9I S hW hE hl0A hl2A h
      have h : rL_isOne_b3 (wkXg X) F k n (rL_isOne_go (wkXg X) F k n k') c s l0A l1I l3I l6I l9I S Φ := by
        rw [rL_isOne_go, if_neg (show ¬ (3 : Nat) = 0 by decide), if_neg (show ¬ (3 : Nat) = 1 by decide), if_neg (show ¬ (3 : Nat) = 2 by decide), if_pos (rfl : (3 : Nat) = 3)] at h
        exact h
      unfold rL_isOne_b3 at h
      refine wk_iload C dL_isOne_225 rfl ?_
      refine wk_iconst C (v := 4) dL_isOne_227 (by decide) ?_
      refine wk_icmp_ge C (tgt := 279) dL_isOne_228 (by decide) (fun c97 => ?_) (fun c97 => ?_)
      · rw [if_pos c97] at h
        refine wk_iconst C (v := 1) dL_isOne_279 (by decide) ?_
        exact E _ _ _ _ _ _ hc hs dL_isOne_280 rfl ⟨(1 : Int32), rfl, h, hW, hE⟩
      · rw [if_neg c97] at h
        refine wk_aload_n C dL_isOne_231 rfl rfl ?_
        refine wk_iload_n C dL_isOne_232 rfl rfl ?_
        refine wk_iload C dL_isOne_233 rfl ?_
        refine wk_if_ne C (tgt := 242) dL_isOne_235 (by decide) (fun c98 => ?_) (fun c98 => ?_)
        · rw [if_neg c98] at h
          refine wk_iconst C (v := 0) dL_isOne_242 (by decide) ?_
          obtain ⟨k102, n103, hk102, hn103, h⟩ := h
          refine wk_callT C hR (As := [.ref l0A, .int l1I, .int (0 : Int32)]) (cnt := 3) (tL_check (l := l) hst hcs hex hlt hW hl0A h) rfl (wkGoodW (List.mem_of_getElem? (i := 6) rfl) (List.mem_of_getElem? (i := 7) rfl) (List.mem_of_getElem? (i := 3) rfl) hbL_isOne_L_check gdL_check) (Nat.le_trans (by decide : 57 + 1 ≤ 58) hd) (by decide) ⟨by decide, by decide, by decide +kernel⟩ rfl rfl (Nat.le_of_ble_eq_true rfl) hk102 hn103 dL_isOne_243 (fun v' S100 hp => ?_)
          obtain ⟨v99, rfl, h, hWS100, hXS100⟩ := hp
          refine wk_lconst C (v := 1) dL_isOne_246 (by decide) ?_
          refine wk_lcmp C dL_isOne_247 rfl ?_
          refine wk_if_ge C (tgt := 253) dL_isOne_248 (by decide) (fun c104 => ?_) (fun c104 => ?_)
          · rw [if_pos c104] at h
            refine wk_aload_n C dL_isOne_253 rfl rfl ?_
            refine wk_aload_n C dL_isOne_254 rfl rfl ?_
            refine wk_iload_n C dL_isOne_255 rfl rfl ?_
            refine wk_bipush C (v := 20) dL_isOne_256 (by decide) ?_
            refine wk_iadd C dL_isOne_258 rfl ?_
            refine wk_iload C dL_isOne_259 rfl ?_
            refine wk_iadd C dL_isOne_261 rfl ?_
            refine wk_bipush C (v := 10) dL_isOne_262 (by decide) ?_
            refine wk_callW C hR (As := [.ref l2A, .int ((l3I + (20 : Int32)) + l9I), .int (10 : Int32)]) (cnt := 3) (tL_drawn (l := l) harg hWS100 hl2A h) rfl (wkGoodW (List.mem_of_getElem? (i := 11) rfl) (List.mem_of_getElem? (i := 12) rfl) (List.mem_of_getElem? (i := 3) rfl) hbL_isOne_L_drawn gdL_drawn) (Nat.le_trans (by decide : 1 + 1 ≤ 58) hd) (by decide) ⟨by decide, by decide, by decide +kernel⟩ rfl rfl (Nat.le_of_ble_eq_true rfl) hk102 hn103 dL_isOne_264 (fun v' S106 hp => ?_)
            obtain ⟨v105, rfl, h, hWS106, hXS106⟩ := hp
            refine wk_iconst C (v := 1) dL_isOne_267 (by decide) ?_
            refine wk_isub C dL_isOne_268 rfl ?_
            obtain ⟨k113, n114, hk113, hn114, h⟩ := h
            refine wk_callT C hR (As := [.ref l0A, .int (v105 - (1 : Int32))]) (cnt := 2) (tL_type (l := l) hcs hex hlt hWS106 (hXS106 _ _ (hXS100 _ _ hl0A)) h) rfl (wkGoodW (List.mem_of_getElem? (i := 15) rfl) (List.mem_of_getElem? (i := 16) rfl) (List.mem_of_getElem? (i := 3) rfl) hbL_isOne_L_type gdL_type) (Nat.le_trans (by decide : 7 + 1 ≤ 58) hd) (by decide) ⟨by decide, by decide, by decide +kernel⟩ rfl rfl (Nat.le_of_ble_eq_true rfl) hk113 hn114 dL_isOne_269 (fun v' S111 hp => ?_)
            obtain ⟨v110, rfl, h, hWS111, hXS111⟩ := hp
            refine wk_pop2L C dL_isOne_272 rfl ?_
            obtain ⟨x115, ex115, h⟩ := wkLt_some h
            refine wk_iinc C (lv' := [some (.ref l0A), some (.int l1I), some (.ref l2A), some (.int l3I), none, none, some (.int l6I), none, none, some (.int x115), none, none, none]) dL_isOne_273 rfl (by rw [ex115]; rfl) (by decide) rfl ?_
            refine wk_goto C (tgt := 225) dL_isOne_276 (by decide) ?_
            exact wk_forget (lv' := [some (.ref l0A), some (.int l1I), some (.ref l2A), some (.int l3I), none, none, some (.int l6I), none, none, some (.int x115), none, none, none]) (wkLs.le ⟨rfl, rfl, rfl, rfl, rfl, rfl, trivial⟩) (ih.2.2.2 _ _ hk113 hn114 _ _ _ _ _ _ _ hWS111 (wkExt.tr (wkExt.tr (wkExt.tr hE hXS100) hXS106) hXS111) (hXS111 _ _ (hXS106 _ _ (hXS100 _ _ hl0A))) hl2A h)
          · rw [if_neg c104] at h
            refine wk_iconst C (v := 0) dL_isOne_251 (by decide) ?_
            exact E _ _ _ _ _ _ hk102 hn103 dL_isOne_252 rfl ⟨(0 : Int32), rfl, h, hWS100, (wkExt.tr hE hXS100)⟩
        · rw [if_pos c98] at h
          refine wk_iconst C (v := 1) dL_isOne_238 (by decide) ?_
          refine wk_goto C (tgt := 243) dL_isOne_239 (by decide) ?_
          obtain ⟨k119, n120, hk119, hn120, h⟩ := h
          refine wk_callT C hR (As := [.ref l0A, .int l1I, .int (1 : Int32)]) (cnt := 3) (tL_check (l := l) hst hcs hex hlt hW hl0A h) rfl (wkGoodW (List.mem_of_getElem? (i := 6) rfl) (List.mem_of_getElem? (i := 7) rfl) (List.mem_of_getElem? (i := 3) rfl) hbL_isOne_L_check gdL_check) (Nat.le_trans (by decide : 57 + 1 ≤ 58) hd) (by decide) ⟨by decide, by decide, by decide +kernel⟩ rfl rfl (Nat.le_of_ble_eq_true rfl) hk119 hn120 dL_isOne_243 (fun v' S117 hp => ?_)
          obtain ⟨v116, rfl, h, hWS117, hXS117⟩ := hp
          refine wk_lconst C (v := 1) dL_isOne_246 (by decide) ?_
          refine wk_lcmp C dL_isOne_247 rfl ?_
          refine wk_if_ge C (tgt := 253) dL_isOne_248 (by decide) (fun c121 => ?_) (fun c121 => ?_)
          · rw [if_pos c121] at h
            refine wk_aload_n C dL_isOne_253 rfl rfl ?_
            refine wk_aload_n C dL_isOne_254 rfl rfl ?_
            refine wk_iload_n C dL_isOne_255 rfl rfl ?_
            refine wk_bipush C (v := 20) dL_isOne_256 (by decide) ?_
            refine wk_iadd C dL_isOne_258 rfl ?_
            refine wk_iload C dL_isOne_259 rfl ?_
            refine wk_iadd C dL_isOne_261 rfl ?_
            refine wk_bipush C (v := 10) dL_isOne_262 (by decide) ?_
            refine wk_callW C hR (As := [.ref l2A, .int ((l3I + (20 : Int32)) + l9I), .int (10 : Int32)]) (cnt := 3) (tL_drawn (l := l) harg hWS117 hl2A h) rfl (wkGoodW (List.mem_of_getElem? (i := 11) rfl) (List.mem_of_getElem? (i := 12) rfl) (List.mem_of_getElem? (i := 3) rfl) hbL_isOne_L_drawn gdL_drawn) (Nat.le_trans (by decide : 1 + 1 ≤ 58) hd) (by decide) ⟨by decide, by decide, by decide +kernel⟩ rfl rfl (Nat.le_of_ble_eq_true rfl) hk119 hn120 dL_isOne_264 (fun v' S123 hp => ?_)
            obtain ⟨v122, rfl, h, hWS123, hXS123⟩ := hp
            refine wk_iconst C (v := 1) dL_isOne_267 (by decide) ?_
            refine wk_isub C dL_isOne_268 rfl ?_
            obtain ⟨k130, n131, hk130, hn131, h⟩ := h
            refine wk_callT C hR (As := [.ref l0A, .int (v122 - (1 : Int32))]) (cnt := 2) (tL_type (l := l) hcs hex hlt hWS123 (hXS123 _ _ (hXS117 _ _ hl0A)) h) rfl (wkGoodW (List.mem_of_getElem? (i := 15) rfl) (List.mem_of_getElem? (i := 16) rfl) (List.mem_of_getElem? (i := 3) rfl) hbL_isOne_L_type gdL_type) (Nat.le_trans (by decide : 7 + 1 ≤ 58) hd) (by decide) ⟨by decide, by decide, by decide +kernel⟩ rfl rfl (Nat.le_of_ble_eq_true rfl) hk130 hn131 dL_isOne_269 (fun v' S128 hp => ?_)
            obtain ⟨v127, rfl, h, hWS128, hXS128⟩ := hp
            refine wk_pop2L C dL_isOne_272 rfl ?_
            obtain ⟨x132, ex132, h⟩ := wkLt_some h
            refine wk_iinc C (lv' := [some (.ref l0A), some (.int l1I), some (.ref l2A), some (.int l3I), none, none, some (.int l6I), none, none, some (.int x132), none, none, none]) dL_isOne_273 rfl (by rw [ex132]; rfl) (by decide) rfl ?_
            refine wk_goto C (tgt := 225) dL_isOne_276 (by decide) ?_
            exact wk_forget (lv' := [some (.ref l0A), some (.int l1I), some (.ref l2A), some (.int l3I), none, none, some (.int l6I), none, none, some (.int x132), none, none, none]) (wkLs.le ⟨rfl, rfl, rfl, rfl, rfl, rfl, trivial⟩) (ih.2.2.2 _ _ hk130 hn131 _ _ _ _ _ _ _ hWS128 (wkExt.tr (wkExt.tr (wkExt.tr hE hXS117) hXS123) hXS128) (hXS128 _ _ (hXS123 _ _ (hXS117 _ _ hl0A))) hl2A h)
          · rw [if_neg c121] at h
            refine wk_iconst C (v := 0) dL_isOne_251 (by decide) ?_
            exact E _ _ _ _ _ _ hk119 hn120 dL_isOne_252 rfl ⟨(0 : Int32), rfl, h, hWS117, (wkExt.tr hE hXS117)⟩
set_option maxHeartbeats 4000000 in
set_option maxRecDepth 100000 in
theorem tL_isOne {l : Launch} {g : wkG} {F : Nat} {k n : Nat}  {S : wPS} {l0A : Nat} {l1I : Int32} {l2A : Nat} {l3I : Int32} {Φ : (Int32 → wPS → Prop)} (hst : wkSta g) (hcs : wkCast g) (harg : wkArg g) (hex : wkExA g) (hlt : l.stackTraces = false) (hW : wkWF S) (hl0A : wkIs S l0A 11) (hl2A : l2A = g.1 8) (h : rL_isOne g F k n l0A l1I l3I S Φ) : wkMet l g yL_isOne wvL_isOne 58 k n [.ref l0A, .int l1I, .ref l2A, .int l3I] S (fun v' S'' => ∃ v : Int32, v' = some (.int v) ∧ Φ v S'' ∧ wkWF S'' ∧ wkExt S S'') := by
  refine wkMet_of (ret := (some .boolean)) (by decide) rfl (Nat.le_of_ble_eq_true rfl) (fun X hg C hR E => ?_)
  subst hg
  have hE : wkExt S S := wkExt.rf
  have hd : 58 ≤ 58 := Nat.le_refl _
  show wkGo l X 13 0 0 0 S [some (.ref l0A), some (.int l1I), some (.ref l2A), some (.int l3I), none, none, none, none, none, none, none, none, none] []
  have ih := tL_isOne_go (F := F) hst hcs harg hex hlt C hR hd E F
  have h : rL_isOne_s (wkXg X) F k n (rL_isOne_go (wkXg X) F k n F) l0A l1I l3I S Φ := h
  unfold rL_isOne_s at h
  refine wk_aload_n C dL_isOne_0 rfl rfl ?_
  refine wk_iload_n C dL_isOne_1 rfl rfl ?_
  obtain ⟨k136, n137, hk136, hn137, h⟩ := h
  refine wk_callT C hR (As := [.ref l0A, .int l1I]) (cnt := 2) (tL_answer (l := l) hst hcs hex hlt hW hl0A h) rfl (wkGoodW (List.mem_of_getElem? (i := 17) rfl) (List.mem_of_getElem? (i := 18) rfl) (List.mem_of_getElem? (i := 3) rfl) hbL_isOne_L_answer gdL_answer) (Nat.le_trans (by decide : 57 + 1 ≤ 58) hd) (by decide) ⟨by decide, by decide, by decide +kernel⟩ rfl rfl (Nat.le_of_ble_eq_true rfl) hk136 hn137 dL_isOne_2 (fun v' S134 hp => ?_)
  obtain ⟨v133, rfl, h, hWS134, hXS134⟩ := hp
  refine wk_lstore C (lv' := [some (.ref l0A), some (.int l1I), some (.ref l2A), some (.int l3I), some (.long v133), none, none, none, none, none, none, none, none]) dL_isOne_5 (by decide) rfl ?_
  refine wk_lload C dL_isOne_7 rfl ?_
  refine wk_ldc2 C (v := 121) (List.mem_of_getElem? (i := 19) rfl) dL_isOne_9 ?_
  refine wk_lcmp C dL_isOne_12 rfl ?_
  refine wk_if_ne C (tgt := 20) dL_isOne_13 (by decide) (fun c138 => ?_) (fun c138 => ?_)
  · rw [if_neg c138] at h
    refine wk_iconst C (v := 0) dL_isOne_20 (by decide) ?_
    refine wk_istore C (lv' := [some (.ref l0A), some (.int l1I), some (.ref l2A), some (.int l3I), some (.long v133), none, some (.int (0 : Int32)), none, none, none, none, none, none]) dL_isOne_21 (by decide) rfl ?_
    refine wk_iload C dL_isOne_23 rfl ?_
    refine wk_if_ne C (tgt := 39) dL_isOne_25 (by decide) (fun c => False.elim (by revert c; decide)) (fun _ => ?_)
    refine wk_lload C dL_isOne_28 rfl ?_
    refine wk_ldc2 C (v := 110) (List.mem_of_getElem? (i := 20) rfl) dL_isOne_30 ?_
    refine wk_lcmp C dL_isOne_33 rfl ?_
    refine wk_if_eq C (tgt := 39) dL_isOne_34 (by decide) (fun c139 => ?_) (fun c139 => ?_)
    · rw [if_pos c139] at h
      exact wk_forget (lv' := [some (.ref l0A), some (.int l1I), some (.ref l2A), some (.int l3I), none, none, some (.int (0 : Int32)), none, none, none, none, none, none]) (wkLs.le ⟨rfl, rfl, rfl, rfl, rfl, trivial⟩) (ih.1 _ _ hk136 hn137 _ _ _ _ _ _ hWS134 (wkExt.tr hE hXS134) (hXS134 _ _ hl0A) hl2A h)
    · rw [if_neg c139] at h
      refine wk_iconst C (v := 0) dL_isOne_37 (by decide) ?_
      exact E _ _ _ _ _ _ hk136 hn137 dL_isOne_38 rfl ⟨(0 : Int32), rfl, h, hWS134, (wkExt.tr hE hXS134)⟩
  · rw [if_pos c138] at h
    refine wk_iconst C (v := 1) dL_isOne_16 (by decide) ?_
    refine wk_goto C (tgt := 21) dL_isOne_17 (by decide) ?_
    refine wk_istore C (lv' := [some (.ref l0A), some (.int l1I), some (.ref l2A), some (.int l3I), some (.long v133), none, some (.int (1 : Int32)), none, none, none, none, none, none]) dL_isOne_21 (by decide) rfl ?_
    refine wk_iload C dL_isOne_23 rfl ?_
    refine wk_if_ne C (tgt := 39) dL_isOne_25 (by decide) (fun _ => ?_) (fun c => False.elim (by revert c; decide))
    exact wk_forget (lv' := [some (.ref l0A), some (.int l1I), some (.ref l2A), some (.int l3I), none, none, some (.int (1 : Int32)), none, none, none, none, none, none]) (wkLs.le ⟨rfl, rfl, rfl, rfl, rfl, trivial⟩) (ih.1 _ _ hk136 hn137 _ _ _ _ _ _ hWS134 (wkExt.tr hE hXS134) (hXS134 _ _ hl0A) hl2A h)
