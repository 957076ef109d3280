/-! THE PURE PART, equations: the machine's gathering, the whole. -/
section
def pot (n : Nat) (α : Nat → Int) (m : Nat) : Prop := ∃ K : Nat → Nat, (∀ i, i < n → (α i).natAbs < 2 ^ K i) ∧ K 0 + K 1 + K 2 + K 3 ≤ m
theorem pot_st {n o m : Nat} {α : Nat → Int} (hn : n ≤ 4) (g : gOne n o α) (h : pot n α m) : ∃ t, m = t + 1 ∧ pot n (tkA n o α) t := by
  obtain ⟨K, k1, k2⟩ := h
  obtain ⟨g1, g2, g3, i, i1, i2, i3⟩ := g
  have ki : 1 ≤ K i := Nat.pos_of_ne_zero fun z => by
    have := k1 i i1
    rw [z] at this
    have : (α i).natAbs < 1 := this
    omega
  have half : (tkA n o α i).natAbs < 2 ^ (K i - 1) := by
    unfold tkA
    rw [if_pos ⟨i1, i2⟩]
    have a := (tdiv_rest (a := α i) g2).2.1 (g3 i i1 i3)
    have b := k1 i i1
    obtain ⟨t, ht⟩ : ∃ t, K i = t + 1 := ⟨K i - 1, by omega⟩
    rw [ht, Nat.pow_succ] at b
    rw [ht, Nat.add_sub_cancel]
    omega
  have m1 : 1 ≤ m := by
    rcases (by omega : i = 0 ∨ i = 1 ∨ i = 2 ∨ i = 3) with rfl | rfl | rfl | rfl <;> omega
  refine ⟨m - 1, by omega, fun l => if l = i then K i - 1 else K l, fun l hl => ?_, ?_⟩
  · show _ < 2 ^ (if l = i then K i - 1 else K l)
    by_cases e : l = i
    · subst e
      rw [if_pos rfl]
      exact half
    · rw [if_neg e]
      exact Nat.lt_of_le_of_lt (tkA_le g2) (k1 l hl)
  · show (if 0 = i then K i - 1 else K 0) + (if 1 = i then K i - 1 else K 1) + (if 2 = i then K i - 1 else K 2) + (if 3 = i then K i - 1 else K 3) ≤ m - 1
    rcases (by omega : i = 0 ∨ i = 1 ∨ i = 2 ∨ i = 3) with rfl | rfl | rfl | rfl
    · rw [if_pos rfl, if_neg (by decide), if_neg (by decide), if_neg (by decide)]
      omega
    · rw [if_neg (by decide), if_pos rfl, if_neg (by decide), if_neg (by decide)]
      omega
    · rw [if_neg (by decide), if_neg (by decide), if_pos rfl, if_neg (by decide)]
      omega
    · rw [if_neg (by decide), if_neg (by decide), if_neg (by decide), if_pos rfl]
      omega
/-- what has been looked at: the first j -/
def scn (α : Nat → Int) (j : Nat) (l : Int32) (c : Nat) : Prop := (c = 0 ∧ l = -1 ∧ ∀ i, i < j → α i = 0) ∨ ∃ o, o < j ∧ l = nI o ∧ α o ≠ 0 ∧ (∀ i, i < j → α i ≠ 0 → (α o).natAbs ≤ (α i).natAbs) ∧ 1 ≤ c ∧ c ≤ j ∧ (c = 1 → ∀ i, i < j → i ≠ o → α i = 0) ∧ (2 ≤ c → ∃ i, i < j ∧ i ≠ o ∧ α i ≠ 0)
def gthR (n : Nat) (α : Nat → Int) (v : Int32) : Prop := (v = -1 ∧ ∀ i, i < n → α i = 0) ∨ ∃ o, o < n ∧ v = nI o ∧ α o ≠ 0 ∧ ∀ i, i < n → i ≠ o → α i = 0
theorem lt_m1 : (-1 : Int32) < 0 := by decide
theorem T_gather {F n : Nat} {α0 : Nat → Int} {B0 : Nat → Nat → Int} {P : Nat → Int} {V : mV} (hF : 2 ^ 20 ≤ F) (hn : n ≤ 4) (hα : ∀ i, i < n → (α0 i).natAbs < 2 ^ 62) (hS : stD V n α0 B0 P) : mTo (mX8_gather F V) (fun p => ∃ α B, gtS n α0 B0 α B ∧ stD p.2 n α B P ∧ gthR n α p.1) := by
  have go : ∀ k', (∀ t m α B (V : mV), (1000 - t) * 6 + 2 ≤ k' → t + m < 1000 → gtS n α0 B0 α B → stD V n α B P → pot n α m → mTo (mX8_gather_go F k' 0 (nI t) 0 0 0 V) (fun p => ∃ α B, gtS n α0 B0 α B ∧ stD p.2 n α B P ∧ gthR n α p.1)) ∧ (∀ t m α B j l c (V : mV), (999 - t) * 6 + (n - j) + 3 ≤ k' → t + m < 1000 → j ≤ n → gtS n α0 B0 α B → stD V n α B P → pot n α m → scn α j l c → mTo (mX8_gather_go F k' 1 (nI t) l (nI c) (nI j) V) (fun p => ∃ α B, gtS n α0 B0 α B ∧ stD p.2 n α B P ∧ gthR n α p.1)) := by
    intro k'
    induction k' with
    | zero => exact ⟨fun t m α B V h => by omega, fun t m α B j l c V h => by omega⟩
    | succ x ih =>
      obtain ⟨ih0, ih1⟩ := ih
      refine ⟨fun t m α B V h1 h2 hg hS hp => ?_, fun t m α B j l c V h1 h2 h3 hg hS hp hs => ?_⟩
      · rw [mX8_gather_go, if_pos rfl]
        unfold mX8_gather_b0
        refine mTo.le (a := 1000) rfl rfl (by omega) (by omega) (fun z => by omega) (fun z => ?_)
        exact ih1 t m α B 0 (-1) 0 V (by omega) h2 (Nat.zero_le _) hg hS hp (Or.inl ⟨rfl, rfl, fun i hi => absurd hi (Nat.not_lt_zero _)⟩)
      · rw [mX8_gather_go, if_neg (by decide), if_pos rfl]
        unfold mX8_gather_b1
        have am : ∀ i, i < n → (α i).natAbs < 2 ^ 62 := fun i hi => Nat.lt_of_le_of_lt (gtS_le hg) (hα i hi)
        have c4 : c ≤ 4 := by
          rcases hs with ⟨s1, _⟩ | ⟨o, _, _, _, _, _, s5, _⟩ <;> omega
        refine mTo.le hS.1 rfl (by omega) (by omega) (fun z => ?_) (fun z => mTo.ix rfl (by omega) (by omega) ?_)
        · have : j = n := by omega
          subst this
          refine mTo.ltI (a := 1) rfl rfl (by omega) (by omega) (fun w => ?_) (fun w => mTo.ret ⟨α, B, hg, hS, ?_⟩)
          · rcases hs with ⟨s1, _⟩ | ⟨o, o1, o2, o3, o4, o5, o6, o7, o8⟩
            · omega
            · subst o2
              have g : gOne j o α := ⟨o1, o3, o4, o8 (by omega)⟩
              obtain ⟨t', ht, hp'⟩ := pot_st hn g hp
              refine mTo.W (Q := fun p => stD p.2 j (tkA j o α) (tkB j o α B) P) (T_takeFrom (by omega) hn o1 o3 am hS) (fun a V1 _ q => mTo.lt ?_)
              rw [nI_1]
              exact ih0 (t + 1) t' _ _ V1 (by omega) (by omega) (gtS.st hg g) q hp'
          · rcases hs with ⟨s1, s2, s3⟩ | ⟨o, o1, o2, o3, o4, o5, o6, o7, o8⟩
            · exact Or.inl ⟨s2, s3⟩
            · exact Or.inr ⟨o, o1, o2, o3, o7 (by omega)⟩
        · rw [nI_clamp (n := j) (by omega), hS.2.1 j z]
          refine mTo.ite (fun y => mTo.lt ?_) (fun y => mTo.lt (mTo.ite (fun w => mTo.lt ?_) (fun w => mTo.ic rfl (by omega) (by omega) ?_)))
          · have y := (cmpZ (am j z)).mp y
            rw [nI_1]
            refine ih1 t m α B (j + 1) l c V (by omega) h2 (by omega) hg hS hp ?_
            rcases hs with ⟨s1, s2, s3⟩ | ⟨o, o1, o2, o3, o4, o5, o6, o7, o8⟩
            · refine Or.inl ⟨s1, s2, fun i hi => ?_⟩
              by_cases e : i = j
              · rw [e]; exact y
              · exact s3 i (by omega)
            · refine Or.inr ⟨o, by omega, o2, o3, fun i hi hn => ?_, o5, by omega, fun e i hi hn => ?_, fun e => ?_⟩
              · by_cases e : i = j
                · rw [e] at hn; exact absurd y hn
                · exact o4 i (by omega) hn
              · by_cases f : i = j
                · rw [f]; exact y
                · exact o7 e i (by omega) hn
              · obtain ⟨i, i1, i2, i3⟩ := o8 e
                exact ⟨i, by omega, i2, i3⟩
          · have y : α j ≠ 0 := fun e => y ((cmpZ (am j z)).mpr e)
            rw [nI_1, nI_1]
            refine ih1 t m α B (j + 1) (nI j) (c + 1) V (by omega) h2 (by omega) hg hS hp ?_
            rcases hs with ⟨s1, s2, s3⟩ | ⟨o, o1, o2, o3, o4, o5, o6, o7, o8⟩
            · refine Or.inr ⟨j, by omega, rfl, y, fun i hi hn => ?_, by omega, by omega, fun e i hi hn => s3 i (by omega), fun e => by omega⟩
              by_cases e : i = j
              · rw [e]
                exact Nat.le_refl _
              · exact absurd (s3 i (by omega)) hn
            · rw [o2] at w
              exact absurd w (nI_pos (by omega))
          · have y : α j ≠ 0 := fun e => y ((cmpZ (am j z)).mpr e)
            rcases hs with ⟨s1, s2, s3⟩ | ⟨o, o1, o2, o3, o4, o5, o6, o7, o8⟩
            · rw [s2] at w
              exact absurd lt_m1 w
            · subst o2
              refine mTo.ix rfl (by omega) (by omega) ?_
              rw [nI_clamp (n := o) (by omega), hS.2.1 o (by omega), jO_abs (am j z), jO_abs (am o (by omega)), nI_1, nI_1]
              refine mTo.ite (fun u => mTo.lt ?_) (fun u => mTo.lt ?_)
              · clear o7 o8
                have u := (cmpge (by have := am j z; omega) (by have := am o (by omega); omega)).mp u
                refine ih1 t m α B (j + 1) (nI o) (c + 1) V (by omega) h2 (by omega) hg hS hp (Or.inr ⟨o, by omega, rfl, o3, fun i hi hn => ?_, by omega, by omega, fun e => by omega, fun e => ⟨j, by omega, by omega, y⟩⟩)
                by_cases e : i = j
                · rw [e]; omega
                · exact o4 i (by omega) hn
              · clear o7 o8
                have u : ¬ ((α o).natAbs : Int) ≤ (α j).natAbs := fun e => u ((cmpge (by have := am j z; omega) (by have := am o (by omega); omega)).mpr e)
                refine ih1 t m α B (j + 1) (nI j) (c + 1) V (by omega) h2 (by omega) hg hS hp (Or.inr ⟨j, by omega, rfl, y, fun i hi hn => ?_, by omega, by omega, fun e => by omega, fun e => ⟨o, by omega, by omega, o3⟩⟩)
                by_cases e : i = j
                · rw [e]; exact Nat.le_refl _
                · have := o4 i (by omega) hn
                  omega
  unfold mX8_gather mX8_gather_s
  exact (go F).1 0 248 α0 B0 V (by omega) (by omega) gtS.rf hS ⟨fun _ => 62, hα, by decide⟩
theorem T_movePoint {F n o : Nat} {α : Nat → Int} {B : Nat → Nat → Int} {P : Nat → Int} {V : mV} {T : Int64} {t : Int} (hF : 64 ≤ F) (hn : n ≤ 4) (ho : o < 4) (hT : T = jO t) (hS : stD V n α B P) : mTo (mX8_movePoint F (nI o) T V) (fun p => stD p.2 n α B (fun k => P k + t * B o k)) := by
  subst hT
  have go : ∀ k' j (V : mV), 4 < j + k' → j ≤ 4 → stD V n α B (fun k => if k < j then P k + t * B o k else P k) → mTo (mX8_movePoint_go F k' 0 (nI o) (jO t) (nI j) V) (fun p => stD p.2 n α B (fun k => P k + t * B o k)) := by
    intro k'
    induction k' with
    | zero => intro j V h; omega
    | succ x ih =>
      intro j V h1 h2 hS
      rw [mX8_movePoint_go, if_pos rfl]
      unfold mX8_movePoint_b0
      refine mTo.le (a := 4) rfl rfl (by omega) (by omega) (fun z => mTo.ret (stD_c hS (fun i _ => rfl) (fun i k _ _ => rfl) (fun k hk => if_pos (by omega)))) (fun z => mTo.ix rfl (by omega) (by omega) (mTo.ix rfl (by omega) (by omega) (mTo.ix rfl (by omega) (by omega) (mTo.ix rfl (by omega) (by omega) (mTo.lt (mTo.lt ?_))))))
      have pj : _ = jO (if j < j then P j + t * B o j else P j) := hS.2.2.2 j z
      rw [if_neg (by omega)] at pj
      rw [nI_1, nI_clamp (n := j) (by omega), nI_clamp (n := o) (by omega), pj, hS.2.2.1 o j ho z, jO_mul, jO_add]
      refine ih (j + 1) _ (by omega) (by omega) (stD_c (stD_p hS rfl z rfl) (fun i _ => rfl) (fun i k _ _ => rfl) (fun k hk => ?_))
      by_cases e : k = j
      · rw [if_pos e, if_pos (by omega), e]
      · rw [if_neg e]
        by_cases f : k < j
        · rw [if_pos f, if_pos (by omega)]
        · rw [if_neg f, if_neg (by omega)]
  unfold mX8_movePoint mX8_movePoint_s
  exact go F 0 V (by omega) (Nat.zero_le _) (stD_c hS (fun i _ => rfl) (fun i k _ _ => rfl) (fun k _ => (if_neg (by omega)).symm))
theorem T_removeBasis {F n o : Nat} {α : Nat → Int} {B : Nat → Nat → Int} {P : Nat → Int} {V : mV} (hF : 64 ≤ F) (hn : n ≤ 4) (ho : o < n) (hS : stD V n α B P) : mTo (mX8_removeBasis F (nI o) V) (fun p => stD p.2 (n - 1) α (rmB n o B) P) := by
  obtain ⟨m, rfl⟩ : ∃ m, n = m + 1 := ⟨n - 1, by omega⟩
  rw [Nat.add_sub_cancel]
  have go : ∀ k' j (V : mV), 4 < j + k' → j ≤ 4 → stD V m α (fun i k => if i = o ∧ k < j then B m k else B i k) P → mTo (mX8_removeBasis_go F k' 0 (nI o) (nI j) V) (fun p => stD p.2 m α (rmB (m + 1) o B) P) := by
    intro k'
    induction k' with
    | zero => intro j V h; omega
    | succ x ih =>
      intro j V h1 h2 hS
      rw [mX8_removeBasis_go, if_pos rfl]
      unfold mX8_removeBasis_b0
      rw [hS.1]
      refine mTo.le (a := 4) rfl rfl (by omega) (by omega) (fun z => mTo.ret (stD_c hS (fun i _ => rfl) (fun i k _ hk => ?_) (fun k hk => rfl))) (fun z => mTo.ix rfl (by omega) (by omega) (mTo.ix rfl (by omega) (by omega) (mTo.ix rfl (by omega) (by omega) (mTo.ix rfl (by omega) (by omega) (mTo.lt (mTo.lt ?_))))))
      · unfold rmB
        rw [Nat.add_sub_cancel]
        by_cases e : i = o
        · rw [if_pos ⟨e, by omega⟩, if_pos e]
        · rw [if_neg (fun y => e y.1), if_neg e]
      · have bm : _ = jO (if m = o ∧ j < j then B m j else B m j) := hS.2.2.1 m j (by omega) z
        have bm : V.rJ (56 + m) j = jO (B m j) := by
          rw [bm, if_neg (by omega)]
        rw [nI_1, nI_clamp (n := j) (by omega), nI_clamp (n := o) (by omega), nI_clamp (n := m) (by omega), bm]
        refine ih (j + 1) _ (by omega) (by omega) (stD_c (stD_b hS (a := 56 + o) (o := o) rfl (by omega) rfl z rfl) (fun i _ => rfl) (fun i c _ hc => ?_) (fun k hk => rfl))
        by_cases e : i = o ∧ c = j
        · rw [if_pos e, if_pos ⟨e.1, by omega⟩, e.2]
        · rw [if_neg e]
          by_cases f : i = o ∧ c < j
          · rw [if_pos f, if_pos ⟨f.1, by omega⟩]
          · rw [if_neg f, if_neg (fun y => by omega)]
  unfold mX8_removeBasis mX8_removeBasis_s
  refine mTo.lt ?_
  refine go F 0 _ (by omega) (Nat.zero_le _) ⟨?_, fun i hi => hS.2.1 i (by omega), fun i k hi hk => ?_, hS.2.2.2⟩
  · rw [mF_at, hS.1]
    exact nI_pred m
  · show _ = jO (if i = o ∧ k < 0 then B m k else B i k)
    rw [if_neg (by omega)]
    exact hS.2.2.1 i k hi hk
end
