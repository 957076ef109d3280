def wvX11_refreshed : List Cond := .code yX11_refreshed cX11_refreshed 8 (some (.object "Witnessworks$Entry")) :: (([.fieldLink RX11 22 "Witnessworks" "leaningChain" "[I", .fieldLink RX11 18 "Witnessworks" "book" "[LWitnessworks$Entry;", .fieldLink RX11 158 "Witnessworks$Entry" "leaning" "I", .fieldLink RX11 155 "Witnessworks$Entry" "bound" "I", .fieldLink RX11 152 "Witnessworks$Entry" "boundNow" "I", .fieldLink RX11 128 "Witnessworks$Entry" "isSolved" "Z", .fieldLink RX11 10 "Witnessworks" "house" "LWitnessworks$House;", .methodLink RX11 502 yX4_solve, .instanceMethod yX4_solve, .selects RX4 yX4_solve yX4_solve, .initialized RX4, .fieldLink RX11 499 "Witnessworks$Entry" "solvedBound" "I", .fieldLink RX11 225 "Witnessworks$Entry" "told" "I", .fieldLink RX11 171 "Witnessworks$Entry" "plus" "I", .fieldLink RX11 463 "Witnessworks" "LEAST_BOUND" "[I", .fieldLink RX11 147 "Witnessworks$Entry" "kind" "I", .fieldLink RX11 466 "Witnessworks" "MOST_BOUND" "[I", .methodLink RX11 491 Lib.Math.min.name, .static Lib.Math.min.name, .initialized "java/lang/Math", .code Lib.Math.min.name Lib.Math.min.code 2 (some .int), .methodLink RX11 496 Lib.Math.max.name, .static Lib.Math.max.name, .code Lib.Math.max.name Lib.Math.max.code 2 (some .int), .methodLink RX11 103 yX11_entryAt, .instanceMethod yX11_entryAt, .selects RX11 yX11_entryAt yX11_entryAt, .initialized RX11] : List Cond) ++ ((wsX110 ++ (wsX30)) ++ (wvX4_solve ++ (wvX11_entryAt))))
theorem huX11_refreshed_11 : ∀ w ∈ u_ws RX11 TX11 19, w ∈ wvX11_refreshed := fun w h => List.mem_cons_of_mem _ (List.mem_append_right _ (List.mem_append_left _ (List.mem_append_left _ h)))
theorem huX11_refreshed_3 : ∀ w ∈ u_ws RX3 TX3 17, w ∈ wvX11_refreshed := fun w h => List.mem_cons_of_mem _ (List.mem_append_right _ (List.mem_append_left _ (List.mem_append_right _ h)))
theorem hbX11_refreshed_X4_solve : ∀ w ∈ wvX4_solve, w ∈ wvX11_refreshed := fun w h => List.mem_cons_of_mem _ (List.mem_append_right _ (List.mem_append_right _ (List.mem_append_left _ h)))
theorem hbX11_refreshed_X11_entryAt : ∀ w ∈ wvX11_entryAt, w ∈ wvX11_refreshed := fun w h => List.mem_cons_of_mem _ (List.mem_append_right _ (List.mem_append_right _ (List.mem_append_right _ h)))
theorem gdX11_refreshed : ∀ w ∈ wvX11_refreshed, wkGd w := wkGdC rfl (wkGdA (wkGdL (by decide +kernel)) (wkGdA (wkGdA gdX11 gdX3) (wkGdA gdX4_solve gdX11_entryAt)))
def rX11_refreshed_b0 (F : Nat) (k n : Nat) (rec : Nat → Nat → Nat → Nat → Nat → Int32 → Int32 → Int32 → wPS → (Nat → wPS → Prop) → (String → wPS → Prop) → Prop) (c s : Nat) (l0A : Nat) (l2A : Nat) (l3I : Int32) (l4I : Int32) (S : wPS) (Φ : (Nat → wPS → Prop)) (Ψ : String → wPS → Prop) : Prop :=
  if l4I < 0 then (wkLt ((l3I - (1 : Int32))) fun x2 => rec 1 c s l0A l2A 0 0 x2 S Φ Ψ) else (if (12 : Int32) ≤ l3I then (wkLt ((l3I - (1 : Int32))) fun x4 => rec 1 c s l0A l2A 0 0 x4 S Φ Ψ) else (¬ (l3I < 0 ∨ S.len (wkAd (gWitnessworks_leaningChain S l0A)) ≤ (l3I).toNatClampNeg) ∧ wkLt (wuI S (wkAd (gWitnessworks_leaningChain S l0A)) l3I l4I) fun S6 => wkLt (l3I + (1 : Int32)) fun x7 => ¬ (l4I < 0 ∨ S6.len (wkAd (gWitnessworks_book S6 l0A)) ≤ (l4I).toNatClampNeg) ∧ wkLt ((gEntry_leaning S6 (wkAd (S6.rA (wkAd (gWitnessworks_book S6 l0A)) (l4I).toNatClampNeg)))) fun x10 => rec 0 c s l0A l2A x7 x10 0 S6 Φ Ψ))
def rX11_refreshed_b1 (F : Nat) (k n : Nat) (rec : Nat → Nat → Nat → Nat → Nat → Int32 → Int32 → Int32 → wPS → (Nat → wPS → Prop) → (String → wPS → Prop) → Prop) (c s : Nat) (l0A : Nat) (l2A : Nat) (l5I : Int32) (S : wPS) (Φ : (Nat → wPS → Prop)) (Ψ : String → wPS → Prop) : Prop :=
  if l5I < 0 then (Φ l2A S) else (¬ (l5I < 0 ∨ S.len (wkAd (gWitnessworks_leaningChain S l0A)) ≤ (l5I).toNatClampNeg) ∧ ¬ ((S.rI (wkAd (gWitnessworks_leaningChain S l0A)) (l5I).toNatClampNeg) < 0 ∨ S.len (wkAd (gWitnessworks_book S l0A)) ≤ ((S.rI (wkAd (gWitnessworks_leaningChain S l0A)) (l5I).toNatClampNeg)).toNatClampNeg) ∧ wkLt (wu_Entry_boundNow S (wkAd (S.rA (wkAd (gWitnessworks_book S l0A)) ((S.rI (wkAd (gWitnessworks_leaningChain S l0A)) (l5I).toNatClampNeg)).toNatClampNeg)) (gEntry_bound S (wkAd (S.rA (wkAd (gWitnessworks_book S l0A)) ((S.rI (wkAd (gWitnessworks_leaningChain S l0A)) (l5I).toNatClampNeg)).toNatClampNeg)))) fun S15 => if (gEntry_leaning S15 (wkAd (S.rA (wkAd (gWitnessworks_book S l0A)) ((S.rI (wkAd (gWitnessworks_leaningChain S l0A)) (l5I).toNatClampNeg)).toNatClampNeg))) < 0 then (if (gEntry_isSolved S15 (wkAd (S.rA (wkAd (gWitnessworks_book S l0A)) ((S.rI (wkAd (gWitnessworks_leaningChain S l0A)) (l5I).toNatClampNeg)).toNatClampNeg))) = 0 then (∃ k21 n22 : Nat, c + k21 ≤ k ∧ s + n22 ≤ n ∧ rX4_solve F k21 n22 (wkAd (gWitnessworks_house S15 l0A)) (wkAd (S.rA (wkAd (gWitnessworks_book S l0A)) ((S.rI (wkAd (gWitnessworks_leaningChain S l0A)) (l5I).toNatClampNeg)).toNatClampNeg)) S15 fun v18 S19 => wkLt (l5I + (-1 : Int32)) fun x23 => rec 1 (c + k21) (s + n22) l0A l2A 0 0 x23 S19 Φ Ψ) else (if (gEntry_solvedBound S15 (wkAd (S.rA (wkAd (gWitnessworks_book S l0A)) ((S.rI (wkAd (gWitnessworks_leaningChain S l0A)) (l5I).toNatClampNeg)).toNatClampNeg))) = (gEntry_boundNow S15 (wkAd (S.rA (wkAd (gWitnessworks_book S l0A)) ((S.rI (wkAd (gWitnessworks_leaningChain S l0A)) (l5I).toNatClampNeg)).toNatClampNeg))) then (wkLt (l5I + (-1 : Int32)) fun x25 => rec 1 c s l0A l2A 0 0 x25 S15 Φ Ψ) else (∃ k29 n30 : Nat, c + k29 ≤ k ∧ s + n30 ≤ n ∧ rX4_solve F k29 n30 (wkAd (gWitnessworks_house S15 l0A)) (wkAd (S.rA (wkAd (gWitnessworks_book S l0A)) ((S.rI (wkAd (gWitnessworks_leaningChain S l0A)) (l5I).toNatClampNeg)).toNatClampNeg)) S15 fun v26 S27 => wkLt (l5I + (-1 : Int32)) fun x31 => rec 1 (c + k29) (s + n30) l0A l2A 0 0 x31 S27 Φ Ψ))) else (¬ ((gEntry_leaning S15 (wkAd (S.rA (wkAd (gWitnessworks_book S l0A)) ((S.rI (wkAd (gWitnessworks_leaningChain S l0A)) (l5I).toNatClampNeg)).toNatClampNeg))) < 0 ∨ S15.len (wkAd (gWitnessworks_book S15 l0A)) ≤ ((gEntry_leaning S15 (wkAd (S.rA (wkAd (gWitnessworks_book S l0A)) ((S.rI (wkAd (gWitnessworks_leaningChain S l0A)) (l5I).toNatClampNeg)).toNatClampNeg)))).toNatClampNeg) ∧ wkLt (((gEntry_told S15 (wkAd (S15.rA (wkAd (gWitnessworks_book S15 l0A)) ((gEntry_leaning S15 (wkAd (S.rA (wkAd (gWitnessworks_book S l0A)) ((S.rI (wkAd (gWitnessworks_leaningChain S l0A)) (l5I).toNatClampNeg)).toNatClampNeg)))).toNatClampNeg))) + (gEntry_plus S15 (wkAd (S.rA (wkAd (gWitnessworks_book S l0A)) ((S.rI (wkAd (gWitnessworks_leaningChain S l0A)) (l5I).toNatClampNeg)).toNatClampNeg))))) fun x34 => ¬ ((gEntry_kind S15 (wkAd (S.rA (wkAd (gWitnessworks_book S l0A)) ((S.rI (wkAd (gWitnessworks_leaningChain S l0A)) (l5I).toNatClampNeg)).toNatClampNeg))) < 0 ∨ 12 ≤ ((gEntry_kind S15 (wkAd (S.rA (wkAd (gWitnessworks_book S l0A)) ((S.rI (wkAd (gWitnessworks_leaningChain S l0A)) (l5I).toNatClampNeg)).toNatClampNeg)))).toNatClampNeg) ∧ ¬ ((gEntry_kind S15 (wkAd (S.rA (wkAd (gWitnessworks_book S l0A)) ((S.rI (wkAd (gWitnessworks_leaningChain S l0A)) (l5I).toNatClampNeg)).toNatClampNeg))) < 0 ∨ 12 ≤ ((gEntry_kind S15 (wkAd (S.rA (wkAd (gWitnessworks_book S l0A)) ((S.rI (wkAd (gWitnessworks_leaningChain S l0A)) (l5I).toNatClampNeg)).toNatClampNeg)))).toNatClampNeg) ∧ wkLt (wu_Entry_boundNow S15 (wkAd (S.rA (wkAd (gWitnessworks_book S l0A)) ((S.rI (wkAd (gWitnessworks_leaningChain S l0A)) (l5I).toNatClampNeg)).toNatClampNeg)) (if (wkTab 2 ((gEntry_kind S15 (wkAd (S.rA (wkAd (gWitnessworks_book S l0A)) ((S.rI (wkAd (gWitnessworks_leaningChain S l0A)) (l5I).toNatClampNeg)).toNatClampNeg)))).toNatClampNeg) < (if x34 < (wkTab 3 ((gEntry_kind S15 (wkAd (S.rA (wkAd (gWitnessworks_book S l0A)) ((S.rI (wkAd (gWitnessworks_leaningChain S l0A)) (l5I).toNatClampNeg)).toNatClampNeg)))).toNatClampNeg) then x34 else (wkTab 3 ((gEntry_kind S15 (wkAd (S.rA (wkAd (gWitnessworks_book S l0A)) ((S.rI (wkAd (gWitnessworks_leaningChain S l0A)) (l5I).toNatClampNeg)).toNatClampNeg)))).toNatClampNeg)) then (if x34 < (wkTab 3 ((gEntry_kind S15 (wkAd (S.rA (wkAd (gWitnessworks_book S l0A)) ((S.rI (wkAd (gWitnessworks_leaningChain S l0A)) (l5I).toNatClampNeg)).toNatClampNeg)))).toNatClampNeg) then x34 else (wkTab 3 ((gEntry_kind S15 (wkAd (S.rA (wkAd (gWitnessworks_book S l0A)) ((S.rI (wkAd (gWitnessworks_leaningChain S l0A)) (l5I).toNatClampNeg)).toNatClampNeg)))).toNatClampNeg)) else (wkTab 2 ((gEntry_kind S15 (wkAd (S.rA (wkAd (gWitnessworks_book S l0A)) ((S.rI (wkAd (gWitnessworks_leaningChain S l0A)) (l5I).toNatClampNeg)).toNatClampNeg)))).toNatClampNeg))) fun S37 => if (gEntry_isSolved S37 (wkAd (S.rA (wkAd (gWitnessworks_book S l0A)) ((S.rI (wkAd (gWitnessworks_leaningChain S l0A)) (l5I).toNatClampNeg)).toNatClampNeg))) = 0 then (∃ k42 n43 : Nat, c + k42 ≤ k ∧ s + n43 ≤ n ∧ rX4_solve F k42 n43 (wkAd (gWitnessworks_house S37 l0A)) (wkAd (S.rA (wkAd (gWitnessworks_book S l0A)) ((S.rI (wkAd (gWitnessworks_leaningChain S l0A)) (l5I).toNatClampNeg)).toNatClampNeg)) S37 fun v39 S40 => wkLt (l5I + (-1 : Int32)) fun x44 => rec 1 (c + k42) (s + n43) l0A l2A 0 0 x44 S40 Φ Ψ) else (if (gEntry_solvedBound S37 (wkAd (S.rA (wkAd (gWitnessworks_book S l0A)) ((S.rI (wkAd (gWitnessworks_leaningChain S l0A)) (l5I).toNatClampNeg)).toNatClampNeg))) = (gEntry_boundNow S37 (wkAd (S.rA (wkAd (gWitnessworks_book S l0A)) ((S.rI (wkAd (gWitnessworks_leaningChain S l0A)) (l5I).toNatClampNeg)).toNatClampNeg))) then (wkLt (l5I + (-1 : Int32)) fun x46 => rec 1 c s l0A l2A 0 0 x46 S37 Φ Ψ) else (∃ k50 n51 : Nat, c + k50 ≤ k ∧ s + n51 ≤ n ∧ rX4_solve F k50 n51 (wkAd (gWitnessworks_house S37 l0A)) (wkAd (S.rA (wkAd (gWitnessworks_book S l0A)) ((S.rI (wkAd (gWitnessworks_leaningChain S l0A)) (l5I).toNatClampNeg)).toNatClampNeg)) S37 fun v47 S48 => wkLt (l5I + (-1 : Int32)) fun x52 => rec 1 (c + k50) (s + n51) l0A l2A 0 0 x52 S48 Φ Ψ))))
def rX11_refreshed_go (F : Nat) (k n : Nat) : Nat → Nat → Nat → Nat → Nat → Nat → Int32 → Int32 → Int32 → wPS → (Nat → wPS → Prop) → (String → wPS → Prop) → Prop
  | 0, _, _, _, _, _, _, _, _, _, _, _ => False
  | k' + 1, lab, c, s, l0A, l2A, l3I, l4I, l5I, S, Φ, Ψ => if lab = 0 then rX11_refreshed_b0 F k n (rX11_refreshed_go F k n k') c s l0A l2A l3I l4I S Φ Ψ else if lab = 1 then rX11_refreshed_b1 F k n (rX11_refreshed_go F k n k') c s l0A l2A l5I S Φ Ψ else False
def rX11_refreshed_s (F : Nat) (k n : Nat) (rec : Nat → Nat → Nat → Nat → Nat → Int32 → Int32 → Int32 → wPS → (Nat → wPS → Prop) → (String → wPS → Prop) → Prop) (l0A : Nat) (l1I : Int32) (S : wPS) (Φ : (Nat → wPS → Prop)) (Ψ : String → wPS → Prop) : Prop :=
  ∃ k56 n57 : Nat, 0 + k56 ≤ k ∧ 0 + n57 ≤ n ∧ rX11_entryAt F k56 n57 l0A l1I S (fun v53 S54 => rec 0 (0 + k56) (0 + n57) l0A v53 (0 : Int32) l1I 0 S54 Φ Ψ) Ψ
def rX11_refreshed (F : Nat) (k n : Nat) (l0A : Nat) (l1I : Int32) (S : wPS) (Φ : (Nat → wPS → Prop)) (Ψ : String → wPS → Prop) : Prop := rX11_refreshed_s F k n (rX11_refreshed_go F k n F) l0A l1I S Φ Ψ
set_option maxHeartbeats 4000000 in
set_option maxRecDepth 100000 in
theorem tX11_refreshed_go {k n : Nat} {l : Launch} {X : wkX} {d F : Nat} {S0 : wPS} {Φ : (Nat → wPS → Prop)} {Ψ : String → wPS → Prop} (hst : wkSta (wkXg X)) (C : wkC X cX11_refreshed RX11 8 wvX11_refreshed) (hR : wkRm X d k n) (hd : 55 ≤ d) (hex : wkExA (wkXg X)) (hlt : l.stackTraces = false) (EX : wkEndX l X cX11_refreshed 8 k n (fun E S'' => Ψ E S'' ∧ wkWF S'' ∧ wkExt S0 S'')) (ET : wkEndT l X cX11_refreshed 8 k n (fun E S'' => Ψ E S'' ∧ wkWF S'' ∧ wkExt S0 S'')) (E : wkEnd l X cX11_refreshed 8 (some (.object "Witnessworks$Entry")) k n (fun v' S'' => ∃ v : Nat, v' = some (.ref v) ∧ Φ v S'' ∧ wkWF S'' ∧ wkExt S0 S'' ∧ wkIs S'' v 3)) : ∀ k' : Nat, (∀ (c s : Nat), c ≤ k → s ≤ n → ∀ (l0A : Nat) (l2A : Nat) (l3I : Int32) (l4I : Int32) (S : wPS), wkWF S → wkExt S0 S → wkIs S l0A 11 → wkIs S l2A 3 → rX11_refreshed_go F k n k' 0 c s l0A l2A l3I l4I 0 S Φ Ψ → wkGo l X 8 c s 11 S [some (.ref l0A), none, some (.ref l2A), some (.int l3I), some (.int l4I), none, none, none] []) ∧ (∀ (c s : Nat), c ≤ k → s ≤ n → ∀ (l0A : Nat) (l2A : Nat) (l5I : Int32) (S : wPS), wkWF S → wkExt S0 S → wkIs S l0A 11 → wkIs S l2A 3 → rX11_refreshed_go F k n k' 1 c s l0A l2A 0 0 l5I S Φ Ψ → wkGo l X 8 c s 53 S [some (.ref l0A), none, some (.ref l2A), none, none, some (.int l5I), none, none] []) := by
  intro k'
  induction k' with
  | zero => exact ⟨fun c s hc hs l0A l2A l3I l4I S hW hE hl0A hl2A h => h.elim, fun c s hc hs l0A l2A l5I S hW hE hl0A hl2A h => h.elim⟩
  | succ k' ih =>
    refine ⟨?_, ?_⟩
    · intro c s hc hs l0A l2A l3I l4I S hW hE hl0A hl2A h
      have h : rX11_refreshed_b0 F k n (rX11_refreshed_go F k n k') c s l0A l2A l3I l4I S Φ Ψ := by
        rw [rX11_refreshed_go, if_pos (rfl : (0 : Nat) = 0)] at h
        exact h
      unfold rX11_refreshed_b0 at h
      refine wk_iload C dX11_refreshed_11 rfl ?_
      refine wk_if_lt C (tgt := 48) dX11_refreshed_13 (by decide) (fun c1 => ?_) (fun c1 => ?_)
      · rw [if_pos c1] at h
        refine wk_iload_n C dX11_refreshed_48 rfl rfl ?_
        refine wk_iconst C (v := 1) dX11_refreshed_49 (by decide) ?_
        refine wk_isub C dX11_refreshed_50 rfl ?_
        obtain ⟨x2, ex2, h⟩ := wkLt_some h
        refine wk_topi ex2 ?_
        refine wk_istore C (lv' := [some (.ref l0A), none, some (.ref l2A), some (.int l3I), some (.int l4I), some (.int x2), none, none]) dX11_refreshed_51 (by decide) rfl ?_
        exact wk_forget (lv' := [some (.ref l0A), none, some (.ref l2A), none, none, some (.int x2), none, none]) (wkLs.le ⟨rfl, rfl, rfl, trivial⟩) (ih.2 _ _ hc hs _ _ _ _ hW hE hl0A hl2A h)
      · rw [if_neg c1] at h
        refine wk_iload_n C dX11_refreshed_16 rfl rfl ?_
        refine wk_bipush C (v := 12) dX11_refreshed_17 (by decide) ?_
        refine wk_icmp_ge C (tgt := 48) dX11_refreshed_19 (by decide) (fun c3 => ?_) (fun c3 => ?_)
        · rw [if_pos c3] at h
          refine wk_iload_n C dX11_refreshed_48 rfl rfl ?_
          refine wk_iconst C (v := 1) dX11_refreshed_49 (by decide) ?_
          refine wk_isub C dX11_refreshed_50 rfl ?_
          obtain ⟨x4, ex4, h⟩ := wkLt_some h
          refine wk_topi ex4 ?_
          refine wk_istore C (lv' := [some (.ref l0A), none, some (.ref l2A), some (.int l3I), some (.int l4I), some (.int x4), none, none]) dX11_refreshed_51 (by decide) rfl ?_
          exact wk_forget (lv' := [some (.ref l0A), none, some (.ref l2A), none, none, some (.int x4), none, none]) (wkLs.le ⟨rfl, rfl, rfl, trivial⟩) (ih.2 _ _ hc hs _ _ _ _ hW hE hl0A hl2A h)
        · rw [if_neg c3] at h
          refine wk_aload_n C dX11_refreshed_22 rfl rfl ?_
          refine wk_get C huX11_refreshed_11 hl0A.1 (fun cy => wAt_11 cy _ hl0A.2) rfl 3 (by decide) (List.mem_of_getElem? (i := 1) rfl) rfl (congrArg some (congrArg va_rf (wf_Witnessworks_leaningChain hW hl0A).1)) dX11_refreshed_23 ?_
          refine wk_iload_n C dX11_refreshed_26 rfl rfl ?_
          refine wk_iload C dX11_refreshed_27 rfl ?_
          obtain ⟨i5, h⟩ := h
          obtain ⟨S6, eS6, h⟩ := wkLt_some h
          refine wk_iast C (wf_Witnessworks_leaningChain hW hl0A).2.1 (wf_Witnessworks_leaningChain hW hl0A).2.2 i5 eS6.symm dX11_refreshed_29 ?_
          have hWS6 : wkWF S6 := by rw [eS6]; exact hW
          have hXS6 : wkExt S S6 := by rw [eS6]; exact wkExt.rf
          obtain ⟨x7, ex7, h⟩ := wkLt_some h
          refine wk_iinc C (lv' := [some (.ref l0A), none, some (.ref l2A), some (.int x7), some (.int l4I), none, none, none]) dX11_refreshed_30 rfl (by rw [ex7]; rfl) (by decide) rfl ?_
          refine wk_aload_n C dX11_refreshed_33 rfl rfl ?_
          refine wk_get C huX11_refreshed_11 (hXS6 _ _ hl0A).1 (fun cy => wAt_11 cy _ (hXS6 _ _ hl0A).2) rfl 1 (by decide) (List.mem_of_getElem? (i := 2) rfl) rfl (congrArg some (congrArg va_rf (wf_Witnessworks_book hWS6 (hXS6 _ _ hl0A)).1)) dX11_refreshed_34 ?_
          refine wk_iload C dX11_refreshed_37 rfl ?_
          obtain ⟨i8, h⟩ := h
          have w9 := wf_REntry hWS6 (wf_Witnessworks_book hWS6 (hXS6 _ _ hl0A)).2 (Nat.not_le.mp fun q => i8 (Or.inr q))
          refine wk_aaldEntry C (wf_Witnessworks_book hWS6 (hXS6 _ _ hl0A)).2.1 (wf_Witnessworks_book hWS6 (hXS6 _ _ hl0A)).2.2 i8 w9.1 dX11_refreshed_39 ?_
          refine wk_get C (v := .int (gEntry_leaning S6 (wkAd (S6.rA (wkAd (gWitnessworks_book S6 l0A)) (l4I).toNatClampNeg)))) huX11_refreshed_3 w9.2.1 (fun cy => wAt_3 cy _ w9.2.2) rfl 3 (by decide) (List.mem_of_getElem? (i := 3) rfl) rfl rfl dX11_refreshed_40 ?_
          obtain ⟨x10, ex10, h⟩ := wkLt_some h
          refine wk_topi ex10 ?_
          refine wk_istore C (lv' := [some (.ref l0A), none, some (.ref l2A), some (.int x7), some (.int x10), none, none, none]) dX11_refreshed_43 (by decide) rfl ?_
          refine wk_goto C (tgt := 11) dX11_refreshed_45 (by decide) ?_
          exact wk_forget (lv' := [some (.ref l0A), none, some (.ref l2A), some (.int x7), some (.int x10), none, none, none]) (wkLs.le ⟨rfl, rfl, rfl, rfl, trivial⟩) (ih.1 _ _ hc hs _ _ _ _ _ hWS6 (wkExt.tr hE hXS6) (hXS6 _ _ hl0A) (hXS6 _ _ hl2A) h)
    · intro c s hc hs l0A l2A l5I S hW hE hl0A hl2A h
      have h : rX11_refreshed_b1 F k n (rX11_refreshed_go F k n k') c s l0A l2A l5I S Φ Ψ := by
        rw [rX11_refreshed_go, if_neg (show ¬ (1 : Nat) = 0 by decide), if_pos (rfl : (1 : Nat) = 1)] at h
        exact h
      unfold rX11_refreshed_b1 at h
      refine wk_iload C dX11_refreshed_53 rfl ?_
      refine wk_if_lt C (tgt := 178) dX11_refreshed_55 (by decide) (fun c11 => ?_) (fun c11 => ?_)
      · rw [if_pos c11] at h
        refine wk_aload_n C dX11_refreshed_178 rfl rfl ?_
        exact E _ _ _ _ _ _ hc hs dX11_refreshed_179 ⟨l2A, rfl, h, hW, hE, hl2A⟩
      · rw [if_neg c11] at h
        refine wk_aload_n C dX11_refreshed_58 rfl rfl ?_
        refine wk_get C huX11_refreshed_11 hl0A.1 (fun cy => wAt_11 cy _ hl0A.2) rfl 1 (by decide) (List.mem_of_getElem? (i := 2) rfl) rfl (congrArg some (congrArg va_rf (wf_Witnessworks_book hW hl0A).1)) dX11_refreshed_59 ?_
        refine wk_aload_n C dX11_refreshed_62 rfl rfl ?_
        refine wk_get C huX11_refreshed_11 hl0A.1 (fun cy => wAt_11 cy _ hl0A.2) rfl 3 (by decide) (List.mem_of_getElem? (i := 1) rfl) rfl (congrArg some (congrArg va_rf (wf_Witnessworks_leaningChain hW hl0A).1)) dX11_refreshed_63 ?_
        refine wk_iload C dX11_refreshed_66 rfl ?_
        obtain ⟨i12, h⟩ := h
        refine wk_iald C (wf_Witnessworks_leaningChain hW hl0A).2.1 (wf_Witnessworks_leaningChain hW hl0A).2.2 i12 rfl dX11_refreshed_68 ?_
        obtain ⟨i13, h⟩ := h
        have w14 := wf_REntry hW (wf_Witnessworks_book hW hl0A).2 (Nat.not_le.mp fun q => i13 (Or.inr q))
        refine wk_aaldEntry C (wf_Witnessworks_book hW hl0A).2.1 (wf_Witnessworks_book hW hl0A).2.2 i13 w14.1 dX11_refreshed_69 ?_
        refine wk_astore C (lv' := [some (.ref l0A), none, some (.ref l2A), none, none, some (.int l5I), some (.ref (wkAd (S.rA (wkAd (gWitnessworks_book S l0A)) ((S.rI (wkAd (gWitnessworks_leaningChain S l0A)) (l5I).toNatClampNeg)).toNatClampNeg))), none]) dX11_refreshed_70 (by decide) rfl ?_
        refine wk_aload C dX11_refreshed_72 rfl ?_
        refine wk_aload C dX11_refreshed_74 rfl ?_
        refine wk_get C (v := .int (gEntry_bound S (wkAd (S.rA (wkAd (gWitnessworks_book S l0A)) ((S.rI (wkAd (gWitnessworks_leaningChain S l0A)) (l5I).toNatClampNeg)).toNatClampNeg)))) huX11_refreshed_3 w14.2.1 (fun cy => wAt_3 cy _ w14.2.2) rfl 2 (by decide) (List.mem_of_getElem? (i := 4) rfl) rfl rfl dX11_refreshed_76 ?_
        obtain ⟨S15, eS15, h⟩ := wkLt_some h
        refine wk_put C (S' := S15) huX11_refreshed_3 w14.2.1 (fun cy => wAt_3 cy _ w14.2.2) rfl 8 (by decide) (List.mem_of_getElem? (i := 5) rfl) rfl tyX3_ok nmX3 rfl (ty := .int) rfl rfl rfl (by show 8 < 17; decide) (fun cy b => by rw [eS15]; exact wSt_3_8 cy _ w14.2.2 _ b) (by rw [eS15]) dX11_refreshed_79 ?_
        have hWS15 : wkWF S15 := by rw [eS15]; exact hW
        have hXS15 : wkExt S S15 := by rw [eS15]; exact wkExt.rf
        refine wk_aload C dX11_refreshed_82 rfl ?_
        refine wk_get C (v := .int (gEntry_leaning S15 (wkAd (S.rA (wkAd (gWitnessworks_book S l0A)) ((S.rI (wkAd (gWitnessworks_leaningChain S l0A)) (l5I).toNatClampNeg)).toNatClampNeg)))) huX11_refreshed_3 (hXS15 _ _ w14.2).1 (fun cy => wAt_3 cy _ (hXS15 _ _ w14.2).2) rfl 3 (by decide) (List.mem_of_getElem? (i := 3) rfl) rfl rfl dX11_refreshed_84 ?_
        refine wk_if_lt C (tgt := 142) dX11_refreshed_87 (by decide) (fun c16 => ?_) (fun c16 => ?_)
        · rw [if_pos c16] at h
          refine wk_aload C dX11_refreshed_142 rfl ?_
          refine wk_get C (v := .int (gEntry_isSolved S15 (wkAd (S.rA (wkAd (gWitnessworks_book S l0A)) ((S.rI (wkAd (gWitnessworks_leaningChain S l0A)) (l5I).toNatClampNeg)).toNatClampNeg)))) huX11_refreshed_3 (hXS15 _ _ w14.2).1 (fun cy => wAt_3 cy _ (hXS15 _ _ w14.2).2) rfl 9 (by decide) (List.mem_of_getElem? (i := 6) rfl) rfl rfl dX11_refreshed_144 ?_
          refine wk_if_eq C (tgt := 163) dX11_refreshed_147 (by decide) (fun c17 => ?_) (fun c17 => ?_)
          · rw [if_pos c17] at h
            refine wk_aload_n C dX11_refreshed_163 rfl rfl ?_
            refine wk_get C huX11_refreshed_11 (hXS15 _ _ hl0A).1 (fun cy => wAt_11 cy _ (hXS15 _ _ hl0A).2) rfl 0 (by decide) (List.mem_of_getElem? (i := 7) rfl) rfl (congrArg some (congrArg va_rf (wf_Witnessworks_house hWS15 (hXS15 _ _ hl0A)).1)) dX11_refreshed_164 ?_
            refine wk_aload C dX11_refreshed_167 rfl ?_
            obtain ⟨k21, n22, hk21, hn22, h⟩ := h
            refine wk_callV C hR (As := [.ref (wkAd (S.rA (wkAd (gWitnessworks_book S l0A)) ((S.rI (wkAd (gWitnessworks_leaningChain S l0A)) (l5I).toNatClampNeg)).toNatClampNeg))]) (cnt := 1) (tX4_solve (l := l) hWS15 (wf_Witnessworks_house hWS15 (hXS15 _ _ hl0A)).2 (hXS15 _ _ w14.2) h) rfl (wkGoodV (List.mem_of_getElem? (i := 8) rfl) (List.mem_of_getElem? (i := 9) rfl) (List.mem_of_getElem? (i := 10) rfl) (List.mem_of_getElem? (i := 11) rfl) hbX11_refreshed_X4_solve gdX4_solve) (Nat.le_trans (by decide : 54 + 1 ≤ 55) hd) (by decide) (wf_Witnessworks_house hWS15 (hXS15 _ _ hl0A)).2.1 (fun cy => wAt_4 cy _ (wf_Witnessworks_house hWS15 (hXS15 _ _ hl0A)).2.2) rfl ⟨by decide, by decide, by decide +kernel⟩ rfl rfl (Nat.le_of_ble_eq_true rfl) hk21 hn22 dX11_refreshed_169 (fun v' S19 hp => ?_)
            obtain ⟨v18, rfl, h, hWS19, hXS19⟩ := hp
            obtain ⟨x23, ex23, h⟩ := wkLt_some h
            refine wk_iinc C (lv' := [some (.ref l0A), none, some (.ref l2A), none, none, some (.int x23), some (.ref (wkAd (S.rA (wkAd (gWitnessworks_book S l0A)) ((S.rI (wkAd (gWitnessworks_leaningChain S l0A)) (l5I).toNatClampNeg)).toNatClampNeg))), none]) dX11_refreshed_172 rfl (by rw [ex23]; rfl) (by decide) rfl ?_
            refine wk_goto C (tgt := 53) dX11_refreshed_175 (by decide) ?_
            exact wk_forget (lv' := [some (.ref l0A), none, some (.ref l2A), none, none, some (.int x23), none, none]) (wkLs.le ⟨rfl, rfl, rfl, trivial⟩) (ih.2 _ _ hk21 hn22 _ _ _ _ hWS19 (wkExt.tr (wkExt.tr hE hXS15) hXS19) (hXS19 _ _ (hXS15 _ _ hl0A)) (hXS19 _ _ (hXS15 _ _ hl2A)) h)
          · rw [if_neg c17] at h
            refine wk_aload C dX11_refreshed_150 rfl ?_
            refine wk_get C (v := .int (gEntry_solvedBound S15 (wkAd (S.rA (wkAd (gWitnessworks_book S l0A)) ((S.rI (wkAd (gWitnessworks_leaningChain S l0A)) (l5I).toNatClampNeg)).toNatClampNeg)))) huX11_refreshed_3 (hXS15 _ _ w14.2).1 (fun cy => wAt_3 cy _ (hXS15 _ _ w14.2).2) rfl 10 (by decide) (List.mem_of_getElem? (i := 12) rfl) rfl rfl dX11_refreshed_152 ?_
            refine wk_aload C dX11_refreshed_155 rfl ?_
            refine wk_get C (v := .int (gEntry_boundNow S15 (wkAd (S.rA (wkAd (gWitnessworks_book S l0A)) ((S.rI (wkAd (gWitnessworks_leaningChain S l0A)) (l5I).toNatClampNeg)).toNatClampNeg)))) huX11_refreshed_3 (hXS15 _ _ w14.2).1 (fun cy => wAt_3 cy _ (hXS15 _ _ w14.2).2) rfl 8 (by decide) (List.mem_of_getElem? (i := 5) rfl) rfl rfl dX11_refreshed_157 ?_
            refine wk_icmp_eq C (tgt := 172) dX11_refreshed_160 (by decide) (fun c24 => ?_) (fun c24 => ?_)
            · rw [if_pos c24] at h
              obtain ⟨x25, ex25, h⟩ := wkLt_some h
              refine wk_iinc C (lv' := [some (.ref l0A), none, some (.ref l2A), none, none, some (.int x25), some (.ref (wkAd (S.rA (wkAd (gWitnessworks_book S l0A)) ((S.rI (wkAd (gWitnessworks_leaningChain S l0A)) (l5I).toNatClampNeg)).toNatClampNeg))), none]) dX11_refreshed_172 rfl (by rw [ex25]; rfl) (by decide) rfl ?_
              refine wk_goto C (tgt := 53) dX11_refreshed_175 (by decide) ?_
              exact wk_forget (lv' := [some (.ref l0A), none, some (.ref l2A), none, none, some (.int x25), none, none]) (wkLs.le ⟨rfl, rfl, rfl, trivial⟩) (ih.2 _ _ hc hs _ _ _ _ hWS15 (wkExt.tr hE hXS15) (hXS15 _ _ hl0A) (hXS15 _ _ hl2A) h)
            · rw [if_neg c24] at h
              refine wk_aload_n C dX11_refreshed_163 rfl rfl ?_
              refine wk_get C huX11_refreshed_11 (hXS15 _ _ hl0A).1 (fun cy => wAt_11 cy _ (hXS15 _ _ hl0A).2) rfl 0 (by decide) (List.mem_of_getElem? (i := 7) rfl) rfl (congrArg some (congrArg va_rf (wf_Witnessworks_house hWS15 (hXS15 _ _ hl0A)).1)) dX11_refreshed_164 ?_
              refine wk_aload C dX11_refreshed_167 rfl ?_
              obtain ⟨k29, n30, hk29, hn30, h⟩ := h
              refine wk_callV C hR (As := [.ref (wkAd (S.rA (wkAd (gWitnessworks_book S l0A)) ((S.rI (wkAd (gWitnessworks_leaningChain S l0A)) (l5I).toNatClampNeg)).toNatClampNeg))]) (cnt := 1) (tX4_solve (l := l) hWS15 (wf_Witnessworks_house hWS15 (hXS15 _ _ hl0A)).2 (hXS15 _ _ w14.2) h) rfl (wkGoodV (List.mem_of_getElem? (i := 8) rfl) (List.mem_of_getElem? (i := 9) rfl) (List.mem_of_getElem? (i := 10) rfl) (List.mem_of_getElem? (i := 11) rfl) hbX11_refreshed_X4_solve gdX4_solve) (Nat.le_trans (by decide : 54 + 1 ≤ 55) hd) (by decide) (wf_Witnessworks_house hWS15 (hXS15 _ _ hl0A)).2.1 (fun cy => wAt_4 cy _ (wf_Witnessworks_house hWS15 (hXS15 _ _ hl0A)).2.2) rfl ⟨by decide, by decide, by decide +kernel⟩ rfl rfl (Nat.le_of_ble_eq_true rfl) hk29 hn30 dX11_refreshed_169 (fun v' S27 hp => ?_)
              obtain ⟨v26, rfl, h, hWS27, hXS27⟩ := hp
              obtain ⟨x31, ex31, h⟩ := wkLt_some h
              refine wk_iinc C (lv' := [some (.ref l0A), none, some (.ref l2A), none, none, some (.int x31), some (.ref (wkAd (S.rA (wkAd (gWitnessworks_book S l0A)) ((S.rI (wkAd (gWitnessworks_leaningChain S l0A)) (l5I).toNatClampNeg)).toNatClampNeg))), none]) dX11_refreshed_172 rfl (by rw [ex31]; rfl) (by decide) rfl ?_
              refine wk_goto C (tgt := 53) dX11_refreshed_175 (by decide) ?_
              exact wk_forget (lv' := [some (.ref l0A), none, some (.ref l2A), none, none, some (.int x31), none, none]) (wkLs.le ⟨rfl, rfl, rfl, trivial⟩) (ih.2 _ _ hk29 hn30 _ _ _ _ hWS27 (wkExt.tr (wkExt.tr hE hXS15) hXS27) (hXS27 _ _ (hXS15 _ _ hl0A)) (hXS27 _ _ (hXS15 _ _ hl2A)) h)
        · rw [if_neg c16] at h
          refine wk_aload_n C dX11_refreshed_90 rfl rfl ?_
          refine wk_get C huX11_refreshed_11 (hXS15 _ _ hl0A).1 (fun cy => wAt_11 cy _ (hXS15 _ _ hl0A).2) rfl 1 (by decide) (List.mem_of_getElem? (i := 2) rfl) rfl (congrArg some (congrArg va_rf (wf_Witnessworks_book hWS15 (hXS15 _ _ hl0A)).1)) dX11_refreshed_91 ?_
          refine wk_aload C dX11_refreshed_94 rfl ?_
          refine wk_get C (v := .int (gEntry_leaning S15 (wkAd (S.rA (wkAd (gWitnessworks_book S l0A)) ((S.rI (wkAd (gWitnessworks_leaningChain S l0A)) (l5I).toNatClampNeg)).toNatClampNeg)))) huX11_refreshed_3 (hXS15 _ _ w14.2).1 (fun cy => wAt_3 cy _ (hXS15 _ _ w14.2).2) rfl 3 (by decide) (List.mem_of_getElem? (i := 3) rfl) rfl rfl dX11_refreshed_96 ?_
          obtain ⟨i32, h⟩ := h
          have w33 := wf_REntry hWS15 (wf_Witnessworks_book hWS15 (hXS15 _ _ hl0A)).2 (Nat.not_le.mp fun q => i32 (Or.inr q))
          refine wk_aaldEntry C (wf_Witnessworks_book hWS15 (hXS15 _ _ hl0A)).2.1 (wf_Witnessworks_book hWS15 (hXS15 _ _ hl0A)).2.2 i32 w33.1 dX11_refreshed_99 ?_
          refine wk_get C (v := .int (gEntry_told S15 (wkAd (S15.rA (wkAd (gWitnessworks_book S15 l0A)) ((gEntry_leaning S15 (wkAd (S.rA (wkAd (gWitnessworks_book S l0A)) ((S.rI (wkAd (gWitnessworks_leaningChain S l0A)) (l5I).toNatClampNeg)).toNatClampNeg)))).toNatClampNeg)))) huX11_refreshed_3 w33.2.1 (fun cy => wAt_3 cy _ w33.2.2) rfl 12 (by decide) (List.mem_of_getElem? (i := 13) rfl) rfl rfl dX11_refreshed_100 ?_
          refine wk_aload C dX11_refreshed_103 rfl ?_
          refine wk_get C (v := .int (gEntry_plus S15 (wkAd (S.rA (wkAd (gWitnessworks_book S l0A)) ((S.rI (wkAd (gWitnessworks_leaningChain S l0A)) (l5I).toNatClampNeg)).toNatClampNeg)))) huX11_refreshed_3 (hXS15 _ _ w14.2).1 (fun cy => wAt_3 cy _ (hXS15 _ _ w14.2).2) rfl 4 (by decide) (List.mem_of_getElem? (i := 14) rfl) rfl rfl dX11_refreshed_105 ?_
          refine wk_iadd C dX11_refreshed_108 rfl ?_
          obtain ⟨x34, ex34, h⟩ := wkLt_some h
          refine wk_topi ex34 ?_
          refine wk_istore C (lv' := [some (.ref l0A), none, some (.ref l2A), none, none, some (.int l5I), some (.ref (wkAd (S.rA (wkAd (gWitnessworks_book S l0A)) ((S.rI (wkAd (gWitnessworks_leaningChain S l0A)) (l5I).toNatClampNeg)).toNatClampNeg))), some (.int x34)]) dX11_refreshed_109 (by decide) rfl ?_
          refine wk_aload C dX11_refreshed_111 rfl ?_
          refine wk_gets C hst (i := 2) (by decide) (List.mem_of_getElem? (i := 15) rfl) dX11_refreshed_113 ?_
          refine wk_aload C dX11_refreshed_116 rfl ?_
          refine wk_get C (v := .int (gEntry_kind S15 (wkAd (S.rA (wkAd (gWitnessworks_book S l0A)) ((S.rI (wkAd (gWitnessworks_leaningChain S l0A)) (l5I).toNatClampNeg)).toNatClampNeg)))) huX11_refreshed_3 (hXS15 _ _ w14.2).1 (fun cy => wAt_3 cy _ (hXS15 _ _ w14.2).2) rfl 0 (by decide) (List.mem_of_getElem? (i := 16) rfl) rfl rfl dX11_refreshed_118 ?_
          obtain ⟨i35, h⟩ := h
          refine wk_tabld C hst (i := 2) (by decide) i35 rfl dX11_refreshed_121 ?_
          refine wk_gets C hst (i := 3) (by decide) (List.mem_of_getElem? (i := 17) rfl) dX11_refreshed_122 ?_
          refine wk_aload C dX11_refreshed_125 rfl ?_
          refine wk_get C (v := .int (gEntry_kind S15 (wkAd (S.rA (wkAd (gWitnessworks_book S l0A)) ((S.rI (wkAd (gWitnessworks_leaningChain S l0A)) (l5I).toNatClampNeg)).toNatClampNeg)))) huX11_refreshed_3 (hXS15 _ _ w14.2).1 (fun cy => wAt_3 cy _ (hXS15 _ _ w14.2).2) rfl 0 (by decide) (List.mem_of_getElem? (i := 16) rfl) rfl rfl dX11_refreshed_127 ?_
          obtain ⟨i36, h⟩ := h
          refine wk_tabld C hst (i := 3) (by decide) i36 rfl dX11_refreshed_130 ?_
          refine wk_iload C dX11_refreshed_131 rfl ?_
          refine wk_mmin C hR (List.mem_of_getElem? (i := 18) rfl) (List.mem_of_getElem? (i := 19) rfl) (List.mem_of_getElem? (i := 20) rfl) (List.mem_of_getElem? (i := 21) rfl) (Nat.le_trans (by decide) hd) hc hs (Nat.le_of_ble_eq_true rfl) rfl dX11_refreshed_133 ?_
          refine wk_mmax C hR (List.mem_of_getElem? (i := 22) rfl) (List.mem_of_getElem? (i := 23) rfl) (List.mem_of_getElem? (i := 20) rfl) (List.mem_of_getElem? (i := 24) rfl) (Nat.le_trans (by decide) hd) hc hs (Nat.le_of_ble_eq_true rfl) rfl dX11_refreshed_136 ?_
          obtain ⟨S37, eS37, h⟩ := wkLt_some h
          refine wk_put C (S' := S37) huX11_refreshed_3 (hXS15 _ _ w14.2).1 (fun cy => wAt_3 cy _ (hXS15 _ _ w14.2).2) rfl 8 (by decide) (List.mem_of_getElem? (i := 5) rfl) rfl tyX3_ok nmX3 rfl (ty := .int) rfl rfl rfl (by show 8 < 17; decide) (fun cy b => by rw [eS37]; exact wSt_3_8 cy _ (hXS15 _ _ w14.2).2 _ b) (by rw [eS37]) dX11_refreshed_139 ?_
          have hWS37 : wkWF S37 := by rw [eS37]; exact hWS15
          have hXS37 : wkExt S15 S37 := by rw [eS37]; exact wkExt.rf
          refine wk_aload C dX11_refreshed_142 rfl ?_
          refine wk_get C (v := .int (gEntry_isSolved S37 (wkAd (S.rA (wkAd (gWitnessworks_book S l0A)) ((S.rI (wkAd (gWitnessworks_leaningChain S l0A)) (l5I).toNatClampNeg)).toNatClampNeg)))) huX11_refreshed_3 (hXS37 _ _ (hXS15 _ _ w14.2)).1 (fun cy => wAt_3 cy _ (hXS37 _ _ (hXS15 _ _ w14.2)).2) rfl 9 (by decide) (List.mem_of_getElem? (i := 6) rfl) rfl rfl dX11_refreshed_144 ?_
          refine wk_if_eq C (tgt := 163) dX11_refreshed_147 (by decide) (fun c38 => ?_) (fun c38 => ?_)
          · rw [if_pos c38] at h
            refine wk_aload_n C dX11_refreshed_163 rfl rfl ?_
            refine wk_get C huX11_refreshed_11 (hXS37 _ _ (hXS15 _ _ hl0A)).1 (fun cy => wAt_11 cy _ (hXS37 _ _ (hXS15 _ _ hl0A)).2) rfl 0 (by decide) (List.mem_of_getElem? (i := 7) rfl) rfl (congrArg some (congrArg va_rf (wf_Witnessworks_house hWS37 (hXS37 _ _ (hXS15 _ _ hl0A))).1)) dX11_refreshed_164 ?_
            refine wk_aload C dX11_refreshed_167 rfl ?_
            obtain ⟨k42, n43, hk42, hn43, h⟩ := h
            refine wk_callV C hR (As := [.ref (wkAd (S.rA (wkAd (gWitnessworks_book S l0A)) ((S.rI (wkAd (gWitnessworks_leaningChain S l0A)) (l5I).toNatClampNeg)).toNatClampNeg))]) (cnt := 1) (tX4_solve (l := l) hWS37 (wf_Witnessworks_house hWS37 (hXS37 _ _ (hXS15 _ _ hl0A))).2 (hXS37 _ _ (hXS15 _ _ w14.2)) h) rfl (wkGoodV (List.mem_of_getElem? (i := 8) rfl) (List.mem_of_getElem? (i := 9) rfl) (List.mem_of_getElem? (i := 10) rfl) (List.mem_of_getElem? (i := 11) rfl) hbX11_refreshed_X4_solve gdX4_solve) (Nat.le_trans (by decide : 54 + 1 ≤ 55) hd) (by decide) (wf_Witnessworks_house hWS37 (hXS37 _ _ (hXS15 _ _ hl0A))).2.1 (fun cy => wAt_4 cy _ (wf_Witnessworks_house hWS37 (hXS37 _ _ (hXS15 _ _ hl0A))).2.2) rfl ⟨by decide, by decide, by decide +kernel⟩ rfl rfl (Nat.le_of_ble_eq_true rfl) hk42 hn43 dX11_refreshed_169 (fun v' S40 hp => ?_)
            obtain ⟨v39, rfl, h, hWS40, hXS40⟩ := hp
            obtain ⟨x44, ex44, h⟩ := wkLt_some h
            refine wk_iinc C (lv' := [some (.ref l0A), none, some (.ref l2A), none, none, some (.int x44), some (.ref (wkAd (S.rA (wkAd (gWitnessworks_book S l0A)) ((S.rI (wkAd (gWitnessworks_leaningChain S l0A)) (l5I).toNatClampNeg)).toNatClampNeg))), some (.int x34)]) dX11_refreshed_172 rfl (by rw [ex44]; rfl) (by decide) rfl ?_
            refine wk_goto C (tgt := 53) dX11_refreshed_175 (by decide) ?_
            exact wk_forget (lv' := [some (.ref l0A), none, some (.ref l2A), none, none, some (.int x44), none, none]) (wkLs.le ⟨rfl, rfl, rfl, trivial⟩) (ih.2 _ _ hk42 hn43 _ _ _ _ hWS40 (wkExt.tr (wkExt.tr (wkExt.tr hE hXS15) hXS37) hXS40) (hXS40 _ _ (hXS37 _ _ (hXS15 _ _ hl0A))) (hXS40 _ _ (hXS37 _ _ (hXS15 _ _ hl2A))) h)
          · rw [if_neg c38] at h
            refine wk_aload C dX11_refreshed_150 rfl ?_
            refine wk_get C (v := .int (gEntry_solvedBound S37 (wkAd (S.rA (wkAd (gWitnessworks_book S l0A)) ((S.rI (wkAd (gWitnessworks_leaningChain S l0A)) (l5I).toNatClampNeg)).toNatClampNeg)))) huX11_refreshed_3 (hXS37 _ _ (hXS15 _ _ w14.2)).1 (fun cy => wAt_3 cy _ (hXS37 _ _ (hXS15 _ _ w14.2)).2) rfl 10 (by decide) (List.mem_of_getElem? (i := 12) rfl) rfl rfl dX11_refreshed_152 ?_
            refine wk_aload C dX11_refreshed_155 rfl ?_
            refine wk_get C (v := .int (gEntry_boundNow S37 (wkAd (S.rA (wkAd (gWitnessworks_book S l0A)) ((S.rI (wkAd (gWitnessworks_leaningChain S l0A)) (l5I).toNatClampNeg)).toNatClampNeg)))) huX11_refreshed_3 (hXS37 _ _ (hXS15 _ _ w14.2)).1 (fun cy => wAt_3 cy _ (hXS37 _ _ (hXS15 _ _ w14.2)).2) rfl 8 (by decide) (List.mem_of_getElem? (i := 5) rfl) rfl rfl dX11_refreshed_157 ?_
            refine wk_icmp_eq C (tgt := 172) dX11_refreshed_160 (by decide) (fun c45 => ?_) (fun c45 => ?_)
            · rw [if_pos c45] at h
              obtain ⟨x46, ex46, h⟩ := wkLt_some h
              refine wk_iinc C (lv' := [some (.ref l0A), none, some (.ref l2A), none, none, some (.int x46), some (.ref (wkAd (S.rA (wkAd (gWitnessworks_book S l0A)) ((S.rI (wkAd (gWitnessworks_leaningChain S l0A)) (l5I).toNatClampNeg)).toNatClampNeg))), some (.int x34)]) dX11_refreshed_172 rfl (by rw [ex46]; rfl) (by decide) rfl ?_
              refine wk_goto C (tgt := 53) dX11_refreshed_175 (by decide) ?_
              exact wk_forget (lv' := [some (.ref l0A), none, some (.ref l2A), none, none, some (.int x46), none, none]) (wkLs.le ⟨rfl, rfl, rfl, trivial⟩) (ih.2 _ _ hc hs _ _ _ _ hWS37 (wkExt.tr (wkExt.tr hE hXS15) hXS37) (hXS37 _ _ (hXS15 _ _ hl0A)) (hXS37 _ _ (hXS15 _ _ hl2A)) h)
            · rw [if_neg c45] at h
              refine wk_aload_n C dX11_refreshed_163 rfl rfl ?_
              refine wk_get C huX11_refreshed_11 (hXS37 _ _ (hXS15 _ _ hl0A)).1 (fun cy => wAt_11 cy _ (hXS37 _ _ (hXS15 _ _ hl0A)).2) rfl 0 (by decide) (List.mem_of_getElem? (i := 7) rfl) rfl (congrArg some (congrArg va_rf (wf_Witnessworks_house hWS37 (hXS37 _ _ (hXS15 _ _ hl0A))).1)) dX11_refreshed_164 ?_
              refine wk_aload C dX11_refreshed_167 rfl ?_
              obtain ⟨k50, n51, hk50, hn51, h⟩ := h
              refine wk_callV C hR (As := [.ref (wkAd (S.rA (wkAd (gWitnessworks_book S l0A)) ((S.rI (wkAd (gWitnessworks_leaningChain S l0A)) (l5I).toNatClampNeg)).toNatClampNeg))]) (cnt := 1) (tX4_solve (l := l) hWS37 (wf_Witnessworks_house hWS37 (hXS37 _ _ (hXS15 _ _ hl0A))).2 (hXS37 _ _ (hXS15 _ _ w14.2)) h) rfl (wkGoodV (List.mem_of_getElem? (i := 8) rfl) (List.mem_of_getElem? (i := 9) rfl) (List.mem_of_getElem? (i := 10) rfl) (List.mem_of_getElem? (i := 11) rfl) hbX11_refreshed_X4_solve gdX4_solve) (Nat.le_trans (by decide : 54 + 1 ≤ 55) hd) (by decide) (wf_Witnessworks_house hWS37 (hXS37 _ _ (hXS15 _ _ hl0A))).2.1 (fun cy => wAt_4 cy _ (wf_Witnessworks_house hWS37 (hXS37 _ _ (hXS15 _ _ hl0A))).2.2) rfl ⟨by decide, by decide, by decide +kernel⟩ rfl rfl (Nat.le_of_ble_eq_true rfl) hk50 hn51 dX11_refreshed_169 (fun v' S48 hp => ?_)
              obtain ⟨v47, rfl, h, hWS48, hXS48⟩ := hp
              obtain ⟨x52, ex52, h⟩ := wkLt_some h
              refine wk_iinc C (lv' := [some (.ref l0A), none, some (.ref l2A), none, none, some (.int x52), some (.ref (wkAd (S.rA (wkAd (gWitnessworks_book S l0A)) ((S.rI (wkAd (gWitnessworks_leaningChain S l0A)) (l5I).toNatClampNeg)).toNatClampNeg))), some (.int x34)]) dX11_refreshed_172 rfl (by rw [ex52]; rfl) (by decide) rfl ?_
              refine wk_goto C (tgt := 53) dX11_refreshed_175 (by decide) ?_
              exact wk_forget (lv' := [some (.ref l0A), none, some (.ref l2A), none, none, some (.int x52), none, none]) (wkLs.le ⟨rfl, rfl, rfl, trivial⟩) (ih.2 _ _ hk50 hn51 _ _ _ _ hWS48 (wkExt.tr (wkExt.tr (wkExt.tr hE hXS15) hXS37) hXS48) (hXS48 _ _ (hXS37 _ _ (hXS15 _ _ hl0A))) (hXS48 _ _ (hXS37 _ _ (hXS15 _ _ hl2A))) h)
set_option maxHeartbeats 4000000 in
set_option maxRecDepth 100000 in
theorem tX11_refreshed {l : Launch} {g : wkG} {F : Nat} {k n : Nat}  {S : wPS} {l0A : Nat} {l1I : Int32} {Φ : (Nat → wPS → Prop)} {Ψ : String → wPS → Prop} (hst : wkSta g) (hex : wkExA g) (hlt : l.stackTraces = false) (hW : wkWF S) (hl0A : wkIs S l0A 11) (h : rX11_refreshed F k n l0A l1I S Φ Ψ) : wkMetX l g yX11_refreshed wvX11_refreshed 55 k n [.ref l0A, .int l1I] S (fun v' S'' => ∃ v : Nat, v' = some (.ref v) ∧ Φ v S'' ∧ wkWF S'' ∧ wkExt S S'' ∧ wkIs S'' v 3) (fun E S'' => Ψ E S'' ∧ wkWF S'' ∧ wkExt S S'') := by
  refine wkMetX_of (ret := (some (.object "Witnessworks$Entry"))) (by decide) rfl (Nat.le_of_ble_eq_true rfl) rfl hex hlt (by decide) (fun X hg C hR E EX ET => ?_)
  subst hg
  have hE : wkExt S S := wkExt.rf
  have hd : 55 ≤ 55 := Nat.le_refl _
  show wkGo l X 8 0 0 0 S [some (.ref l0A), some (.int l1I), none, none, none, none, none, none] []
  have ih := tX11_refreshed_go (F := F) hst C hR hd hex hlt EX ET E F
  have h : rX11_refreshed_s F k n (rX11_refreshed_go F k n F) l0A l1I S Φ Ψ := h
  unfold rX11_refreshed_s at h
  refine wk_aload_n C dX11_refreshed_0 rfl rfl ?_
  refine wk_iload_n C dX11_refreshed_1 rfl rfl ?_
  obtain ⟨k56, n57, hk56, hn57, h⟩ := h
  refine wk_callVX C hR EX (As := [.int l1I]) (cnt := 1) (tX11_entryAt (l := l) hex hlt hW hl0A h) rfl (wkGoodV (List.mem_of_getElem? (i := 25) rfl) (List.mem_of_getElem? (i := 26) rfl) (List.mem_of_getElem? (i := 27) rfl) (List.mem_of_getElem? (i := 28) rfl) hbX11_refreshed_X11_entryAt gdX11_entryAt) (Nat.le_trans (by decide : 6 + 1 ≤ 55) hd) (by decide) hl0A.1 (fun cy => wAt_11 cy _ hl0A.2) rfl ⟨by decide, by decide, by decide +kernel⟩ rfl rfl (Nat.le_of_ble_eq_true rfl) hk56 hn57 dX11_refreshed_2 (fun E S' q => ⟨q.1, q.2.1, wkExt.tr hE q.2.2⟩) (fun v' S54 hp => ?_)
  obtain ⟨v53, rfl, h, hWS54, hXS54, hIS54⟩ := hp
  refine wk_astore_n C (lv' := [some (.ref l0A), some (.int l1I), some (.ref v53), none, none, none, none, none]) dX11_refreshed_5 rfl (by decide) rfl ?_
  refine wk_iconst C (v := 0) dX11_refreshed_6 (by decide) ?_
  refine wk_istore_n C (lv' := [some (.ref l0A), some (.int l1I), some (.ref v53), some (.int (0 : Int32)), none, none, none, none]) dX11_refreshed_7 rfl (by decide) rfl ?_
  refine wk_iload_n C dX11_refreshed_8 rfl rfl ?_
  refine wk_istore C (lv' := [some (.ref l0A), some (.int l1I), some (.ref v53), some (.int (0 : Int32)), some (.int l1I), none, none, none]) dX11_refreshed_9 (by decide) rfl ?_
  exact wk_forget (lv' := [some (.ref l0A), none, some (.ref v53), some (.int (0 : Int32)), some (.int l1I), none, none, none]) (wkLs.le ⟨rfl, rfl, rfl, rfl, trivial⟩) (ih.1 _ _ hk56 hn57 _ _ _ _ _ hWS54 (wkExt.tr hE hXS54) (hXS54 _ _ hl0A) hIS54 h)
